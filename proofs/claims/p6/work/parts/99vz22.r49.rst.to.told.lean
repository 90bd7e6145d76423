section
/-! ===== restore of the reference, undoMany told ===== -/
theorem r_restore6 {d m s kp ik : Nat} {kz : Int} {G : mj_G} {M : mj_M} {Q : mj_P} (hm : G m = (1012, 0)) (hs : G s = (51100, 537)) (hkp : G kp = (70100, 1076)) (hik : G ik = (72102, 2)) (h6 : M.2.2 m 6 = some s) (h59 : M.2.2 m 59 = some kp) (h61 : M.2.2 m 61 = some ik) (hI : ab_Inv G M)
    (hQ0 : (¬ (0 ≤ kz ∧ kz ≤ 1) ∨ ∃ k : Nat, kz = (k : Int) ∧ k ≤ 1 ∧ M.1 ik k = 0) → Q (some (.inl 0)) G (mj_p0 M m 0 0))
    (hQ1 : ∀ (k : Nat) M', kz = (k : Int) → k ≤ 1 → M.1 ik k ≠ 0 → ab_Inv G M' → M'.2.2 = M.2.2 → ab_frm hn_WR G M M' → (∀ p, p < 537 → M'.1 s p = M.1 kp (538 * k + p)) → M'.1 m 28 = 0 → Q (some (.inl 1)) G M') : mj_R mj_tab (d + 2) 235 [.inr (.inr (some m)), .inl kz] G M Q := by
  have i0 : ab_Inv G (mj_p0 M m 0 0) := hI.p0 (by rw [hm]; exact ⟨by decide, by decide⟩)
  have a1 : m ≠ s := hn_ne hm hs (by decide)
  have a2 : m ≠ kp := hn_ne hm hkp (by decide)
  have a3 : m ≠ ik := hn_ne hm hik (by decide)
  obtain ⟨nm, h9, hnm⟩ := hn_rf (k := 9) (q := (54103, 16)) hI hm rfl (by decide) (by decide) (by decide) (fun e => absurd e (by decide))
  obtain ⟨nk, h60, hnk⟩ := hn_rf (k := 60) (q := (71103, 16)) hI hm rfl (by decide) (by decide) (by decide) (fun e => absurd e (by decide))
  have P15 : ∀ (k : Nat) (cb sb : Nat), kz = (k : Int) → k ≤ 1 → M.1 ik k ≠ 0 → mj_W sx_ms (mj_R mj_tab (d + 1)) mt_X12_restore.2.2.2.2.1 Q (mt_X12_restore.2.2.2.2.1.drop 15) [some (.inr (.inr (some m))), some (.inl (k : Int)), none] [] G (mj_p0 M m 0 0) cb sb := by
    intro k cb sb ek hk hik0
    refine mj_W.run (mj_R_mo _ _) 2 ?_
    refine r_restore_1 (d := d) (M0 := mj_p0 M m 0 0) hm hs hkp h6 h59 hk i0 (fun M2 cb sb C2 => ?_) 537 0 _ cb sb rfl ⟨i0, rfl, fun _ _ _ => rfl, fun _ _ => rfl, fun p hp => absurd hp (by omega)⟩
    obtain ⟨c1, c2, c3, c4, c5⟩ := C2
    have r59 : M2.2.2 m 59 = some kp := by rw [c2]; exact h59
    have r9 : M2.2.2 m 9 = some nm := by rw [c2]; exact h9
    have r60 : M2.2.2 m 60 = some nk := by rw [c2]; exact h60
    have fin : ∀ (v : Int), mj_in v → ∀ cb sb : Nat, mj_W sx_ms (mj_R mj_tab (d + 1)) mt_X12_restore.2.2.2.2.1 Q (mt_X12_restore.2.2.2.2.1.drop 46) [some (.inr (.inr (some m))), some (.inl (k : Int)), some (.inl 0)] [] G (mj_p0 M2 m 25 v) cb sb := by
      intro v hv cb sb
      have i3 : ab_Inv G (mj_p0 M2 m 25 v) := c1.p0 (by
        rw [hm]
        exact hn_ii hv)
      refine r_restore_2 (d := d) (M0 := mj_p0 M2 m 25 v) hm hnm hnk r9 r60 hk (fun M4 cb sb e1 e2 e5 => ?_) 8 0 _ cb sb rfl rfl rfl (fun _ _ _ => rfl)
      have i4 : ab_Inv G M4 := hn_L i3 e1 e2 e5
      have end1 : Q (some (.inl 1)) G (mj_p0 M4 m 28 0) := by
        have o1 : ∀ x q, x ≠ s → ¬ (x = m ∧ q = 25) → M4.1 x q = (mj_p0 M m 0 0).1 x q := fun x q hx h25 => by rw [e1]; exact (show (mj_p0 M2 m 25 v).1 x q = M2.1 x q from if_neg h25).trans (c3 x q hx)
        refine hQ1 k _ ek hk hik0 (i4.p0 (by rw [hm]; exact ⟨by decide, by decide⟩)) (by show M4.2.2 = M.2.2; rw [e2]; show M2.2.2 = M.2.2; rw [c2]; rfl) ?_ (fun q hq => ?_) hn_s
        · intro x q hn
          have x1 : ¬ (x = m ∧ q = 0) := fun e => hn ⟨(1012, 0, 0), by decide, by rw [e.1, hm], by rw [e.2]; decide, by rw [e.2]; decide⟩
          have x2 : ¬ (x = m ∧ q = 25) := fun e => hn ⟨(1012, 25, 25), by decide, by rw [e.1, hm], by rw [e.2]; decide, by rw [e.2]; decide⟩
          have x3 : ¬ (x = m ∧ q = 28) := fun e => hn ⟨(1012, 28, 28), by decide, by rw [e.1, hm], by rw [e.2]; decide, by rw [e.2]; decide⟩
          have x4 : ¬ (x = s ∧ q ≤ 536) := fun e => hn ⟨(51100, 0, 536), by decide, by rw [e.1, hs], Nat.zero_le _, e.2⟩
          refine ⟨?_, by show M4.2.2 x q = _; rw [e2]; show M2.2.2 x q = _; rw [c2]; rfl⟩
          have z1 : (mj_p0 M4 m 28 0).1 x q = M4.1 x q := if_neg x3
          have z0 : (mj_p0 M m 0 0).1 x q = M.1 x q := if_neg x1
          rw [z1]
          by_cases ex : x = s
          · subst ex
            rw [e1]
            have hq : 537 ≤ q := by
              by_cases g : q ≤ 536
              · exact absurd ⟨rfl, g⟩ x4
              · omega
            exact (hn_n (Or.inl a1.symm)).trans ((c4 q (by omega)).trans z0)
          · exact (o1 x q ex x2).trans z0
        · refine (hn_n (Or.inl a1.symm)).trans ?_
          rw [e1]
          have c5 := c5 q hq
          rw [Nat.zero_add] at c5
          exact (hn_n (Or.inl a1.symm)).trans (c5.trans (hn_n (Or.inl a2.symm)))
      refine mj_W.run (mj_R_mo _ _) 10 ?_
      refine hn_pi (fk := 28) (List.cons_ne_nil _ _) rfl rfl rfl hm (fun q => by cases q) ?_
      exact ⟨rfl, fun _ => Or.inr rfl, end1⟩
    refine mj_W.run (mj_R_mo _ _) 12 ?_
    refine hn_gr (fk := 59) (List.cons_ne_nil _ _) rfl rfl rfl hm r59 ?_
    refine Or.inl ⟨⟨by show (-2147483648 : Int) ≤ (538 : Int) * (k : Int); omega, by show (538 : Int) * (k : Int) < (2147483648 : Int); omega⟩, ?_⟩
    refine Or.inl ⟨⟨by show (-2147483648 : Int) ≤ (538 : Int) * (k : Int) + 537; omega, by show (538 : Int) * (k : Int) + 537 < (2147483648 : Int); omega⟩, ?_⟩
    refine ⟨70100, 1076, hkp, rfl, by show (0 : Int) ≤ (538 : Int) * (k : Int) + 537; omega, by show (538 : Int) * (k : Int) + 537 < ((1076 : Nat) : Int); omega, ?_⟩
    refine hn_pi (fk := 25) (List.cons_ne_nil _ _) rfl rfl rfl hm (fun q => by cases q) ?_
    exact fin _ (c1.mj kp _) _ _
  refine ⟨Nat.le_of_ble_eq_true rfl, mj_W.run (mj_R_mo _ _) 20 ?_⟩
  refine hn_pi (fk := 0) (List.cons_ne_nil _ _) rfl rfl rfl hm (fun q => by cases q) ?_
  refine ⟨List.cons_ne_nil _ _, Nat.le_of_ble_eq_true rfl, Nat.zero_le _, Nat.zero_le _, ?_⟩
  refine r_isIn (fun g1 g2 => ?_) (fun g => ?_)
  · refine ⟨fun c1 => absurd (show (1 : Int) = 0 from c1) (by decide), fun _ => ?_⟩
    obtain ⟨k, rfl⟩ : ∃ k : Nat, kz = (k : Int) := ⟨kz.toNat, by omega⟩
    refine hn_gr (fk := 61) (List.cons_ne_nil _ _) rfl rfl rfl hm h61 ?_
    refine Or.inr ⟨72102, 2, hik, rfl, by show (0 : Int) ≤ (k : Int); omega, by show (k : Int) < ((2 : Nat) : Int); omega, ?_⟩
    have e : (mj_p0 M m 0 0).1 ik ((k : Int)).toNat = M.1 ik k := hn_n (Or.inl a3.symm)
    refine ⟨fun c2 => mj_W.stay (mj_R_mo _ _) _ (P15 k _ _ rfl (by omega) (by
      have c2 : (mj_p0 M m 0 0).1 ik ((k : Int)).toNat ≠ 0 := c2
      rw [e] at c2
      exact c2)), fun c2 => ⟨rfl, fun _ => Or.inl rfl, hQ0 (Or.inr ⟨k, rfl, by omega, ?_⟩)⟩⟩
    have c2 : ¬ (mj_p0 M m 0 0).1 ik ((k : Int)).toNat ≠ 0 := c2
    rw [e] at c2
    omega
  · exact ⟨fun _ => ⟨rfl, fun _ => Or.inl rfl, hQ0 (Or.inl g)⟩, fun c1 => absurd (show (0 : Int) = 0 from rfl) c1⟩
theorem lc_X12_restore6 {d x m tp s kp ik : Nat} {z1 : Int} {G : mj_G} {M : mj_M} {Q : mj_P} (hV : lw_V G M x m tp s kp) (hik : G ik = (72102, 2)) (h61 : M.2.2 m 61 = some ik) (hQ : ∀ z M', lw_V G M' x m tp s kp → (M'.1 tp 1 = M.1 tp 1 ∧ M'.1 m 2 = M.1 m 2) → ab_frm hn_WR G M M' → (((¬ (0 ≤ z1 ∧ z1 ≤ 1) ∨ M.1 ik z1.toNat = 0) ∧ z = 0 ∧ M'.1 s = M.1 s ∧ M'.1 m 28 = M.1 m 28) ∨ (∃ k : Nat, k ≤ 1 ∧ z1 = (k : Int) ∧ M.1 ik k ≠ 0 ∧ z = 1 ∧ (∀ p, p < 537 → M'.1 s p = M.1 kp (538 * k + p)) ∧ M'.1 m 28 = 0)) → Q (some (.inl z)) G M') : mj_R mj_tab (d + 31) 235 [.inr (.inr (some m)), .inl z1] G M Q := by
  obtain ⟨hI, ⟨g1, g2, g3, g4, g5⟩, ⟨r1, r2, r3⟩, f1, f2, f3⟩ := id hV
  refine r_restore6 (d := d + 29) g2 g4 g5 hik r2 r3 h61 hI (fun c0 => ?_) (fun k M' ek hk k0 i e22 f h1 u0 => ?_)
  · have f0 : ab_frm [(1012, 0, 0)] G M (mj_p0 M m 0 0) := hn_f0 ab_frm.rf ⟨(1012, 0, 0), by decide, by rw [g2], by decide, by decide⟩
    exact hQ 0 _ (hV.fr (hI.p0 (by rw [g2]; exact ⟨by decide, by decide⟩)) f0 (by decide)) (hV.sz f0 (by decide)) (hn_up f0 (by decide)) (Or.inl ⟨c0.imp id (fun ⟨k, e1, e2, e3⟩ => by rw [e1]; exact e3), rfl, wz_c (hn_ne g4 g2 (by decide)), hn_n (Or.inr (by decide))⟩)
  · have hF : hn_F M' s 356 := by
      by_cases e : k = 0
      · subst e
        exact f2.mv (lw_45k (k := 0) hI g5 (by decide)) (fun j hj => by have := h1 (356 + j) (by omega); rw [Nat.mul_zero, Nat.zero_add] at this; exact this)
      · have e1 : k = 1 := by omega
        subst e1
        exact f3.mv (lw_45k (k := 1) hI g5 (by decide)) (fun j hj => by have := h1 (356 + j) (by omega); rw [show 538 * 1 + (356 + j) = 894 + j by omega] at this; exact this)
    exact hQ 1 M' (hV.fs i f (by decide) hF).1 (hV.sz f (by decide)) f (Or.inr ⟨k, hk, ek, k0, rfl, h1, u0⟩)
end
section
/-! ===== bids that can be undone ===== -/
def lq_hs (U : Nat → Int) : Nat → (Nat → Int) → Prop
  | 0, B => lq_ct B 96 ≤ 40
  | z + 1, B => lq_ct B 96 ≤ 40 ∧ lq_hs U z (rv_up B (12 * U (3 * z) + U (3 * z + 1)).toNat (U (3 * z + 2)))
theorem lq_hs.ct {U B : Nat → Int} : ∀ {z : Nat}, lq_hs U z B → lq_ct B 96 ≤ 40
  | 0, h => h
  | _ + 1, h => h.1
theorem lq_hs.cg {U U' : Nat → Int} : ∀ {z : Nat} {B B' : Nat → Int}, lq_hs U z B → (∀ i, i < 3 * z → U' i = U i) → (∀ i, i < 96 → B' i = B i) → lq_hs U' z B'
  | 0, B, B', h, _, hb => by
    show lq_ct B' 96 ≤ 40
    rw [lq_ct_cg 96 hb]; exact h
  | z + 1, B, B', h, hu, hb => by
    refine ⟨by rw [lq_ct_cg 96 hb]; exact h.1, ?_⟩
    rw [hu (3 * z) (by omega), hu (3 * z + 1) (by omega), hu (3 * z + 2) (by omega)]
    refine lq_hs.cg h.2 (fun i hi => hu i (by omega)) (fun i hi => ?_)
    by_cases e : i = (12 * U (3 * z) + U (3 * z + 1)).toNat
    · rw [e, rv_up_s, rv_up_s]
    · rw [rv_up_n e, rv_up_n e]; exact hb i hi
theorem lq_hs.z {U B : Nat → Int} (h : lq_ct B 96 ≤ 40) : lq_hs U 0 B := by
  unfold lq_hs; exact h
theorem lq_hs.s {U B : Nat → Int} {z : Nat} (h : lq_ct B 96 ≤ 40) (h2 : lq_hs U z (rv_up B (12 * U (3 * z) + U (3 * z + 1)).toNat (U (3 * z + 2)))) : lq_hs U (z + 1) B := ⟨h, h2⟩
theorem lq_hs.t {U B : Nat → Int} {z : Nat} (h : lq_hs U (z + 1) B) : lq_hs U z (rv_up B (12 * U (3 * z) + U (3 * z + 1)).toNat (U (3 * z + 2))) := h.2
theorem lq_hs.sh {U : Nat → Int} {z : Nat} : ∀ {B : Nat → Int}, lq_hs U (z + 1) B → lq_hs (fun i => U (i + 3)) z B := by
  induction z with
  | zero => intro B h; exact lq_hs.z (lq_hs.ct h)
  | succ z ih =>
    intro B h
    refine lq_hs.s (lq_hs.ct h) ?_
    have h2 := ih (lq_hs.t h)
    have e1 : 3 * (z + 1) + 1 = 3 * z + 1 + 3 := by omega
    have e2 : 3 * (z + 1) + 2 = 3 * z + 2 + 3 := by omega
    rw [e1, e2] at h2
    exact h2
def lq_UA (G : mj_G) (w : Nat → Nat) : Prop := G (w 121) = (1009, 0) ∧ G (w 122) = (39100, 8) ∧ G (w 123) = (40100, 8) ∧ G (w 124) = (41100, 8) ∧ G (w 344) = (57100, 24)
def lq_UB (M : mj_M) (w : Nat → Nat) (x m : Nat) : Prop := M.2.2 x 5 = some (w 121) ∧ M.2.2 (w 121) 0 = some (w 122) ∧ M.2.2 (w 121) 1 = some (w 123) ∧ M.2.2 (w 121) 2 = some (w 124) ∧ M.2.2 m 27 = some (w 344)
/-- the reference's undone, z of them -/
def lq_Uz (U H : Nat → Int) (z : Nat) : Prop := z ≤ 8 ∧ lq_hs U z (fun i => H (88 + i)) ∧ (∀ i, i < z → (0 ≤ U (3 * i) ∧ U (3 * i) < H 0) ∧ (0 ≤ U (3 * i + 1) ∧ U (3 * i + 1) < 12) ∧ (0 ≤ U (3 * i + 2) ∧ U (3 * i + 2) ≤ 999))
/-- the class's, alike -/
def lq_Uc (M : mj_M) (w : Nat → Nat) (z : Nat) : Prop := M.1 (w 121) 3 = (z : Int) ∧ ∀ i, i < z → M.1 (w 122) i = M.1 (w 344) (3 * i) ∧ M.1 (w 123) i = M.1 (w 344) (3 * i + 1) ∧ M.1 (w 124) i = M.1 (w 344) (3 * i + 2)
def lq_U (G : mj_G) (M : mj_M) (x m s : Nat) (w : Nat → Nat) : Prop := lq_UA G w ∧ lq_UB M w x m ∧ ∃ z : Nat, M.1 m 28 = (z : Int) ∧ lq_Uz (M.1 (w 344)) (M.1 s) z ∧ lq_Uc M w z
abbrev lq_Uo (W : List (Nat × Nat × Nat)) : Prop := ∀ q ∈ W, q.1 ≠ 39100 ∧ q.1 ≠ 40100 ∧ q.1 ≠ 41100 ∧ q.1 ≠ 57100 ∧ ¬ (q.1 = 1009 ∧ q.2.1 < 3) ∧ ¬ (q.1 = 1011 ∧ q.2.1 ≤ 5 ∧ 5 ≤ q.2.2) ∧ ¬ (q.1 = 1012 ∧ q.2.1 ≤ 27 ∧ 27 ≤ q.2.2)
abbrev lq_Uk (W : List (Nat × Nat × Nat)) : Prop := lq_Uo W ∧ ∀ q ∈ W, ¬ (q.1 = 1009 ∧ q.2.1 ≤ 3) ∧ ¬ (q.1 = 1012 ∧ q.2.1 ≤ 28 ∧ 28 ≤ q.2.2) ∧ ¬ (q.1 = 51100 ∧ q.2.1 < 184)
theorem lq_Uz.cg {U U' H H' : Nat → Int} {z : Nat} (h : lq_Uz U H z) (hu : ∀ i, i < 3 * z → U' i = U i) (h0 : H' 0 = H 0) (hb : ∀ i, i < 96 → H' (88 + i) = H (88 + i)) : lq_Uz U' H' z := by
  obtain ⟨h1, h2, h3⟩ := h
  refine ⟨h1, h2.cg hu hb, fun i hi => ?_⟩
  rw [hu (3 * i) (by omega), hu (3 * i + 1) (by omega), hu (3 * i + 2) (by omega), h0]
  exact h3 i hi
theorem lq_Uz.no {U H : Nat → Int} (h : lq_ct (fun i => H (88 + i)) 96 ≤ 40) : lq_Uz U H 0 := ⟨by decide, h, fun i hi => absurd hi (Nat.not_lt_zero i)⟩
section UG
variable {G : mj_G} {M M' : mj_M} {w : Nat → Nat} {x m s z : Nat} {W : List (Nat × Nat × Nat)}
theorem lq_UB.go (h : lq_UB M w x m) (hA : lq_UA G w) (gx : G x = (1011, 0)) (gm : G m = (1012, 0)) (f : ab_frm W G M M') (c : lq_Uo W) : lq_UB M' w x m := by
  obtain ⟨b1, b2, b3, b4, b5⟩ := h
  have hu : ∀ k, k < 3 → M'.2.2 (w 121) k = M.2.2 (w 121) k := fun k hk => (f _ k (by
    rw [hA.1]; rintro ⟨r, hr, e1, e2, e3⟩; exact (c r hr).2.2.2.2.1 ⟨e1, by omega⟩)).2
  refine ⟨(f _ _ ?_).2.trans b1, (hu 0 (by decide)).trans b2, (hu 1 (by decide)).trans b3, (hu 2 (by decide)).trans b4, (f _ _ ?_).2.trans b5⟩
  · rw [gx]; rintro ⟨r, hr, e1, e2, e3⟩; exact (c r hr).2.2.2.2.2.1 ⟨e1, e2, e3⟩
  · rw [gm]; rintro ⟨r, hr, e1, e2, e3⟩; exact (c r hr).2.2.2.2.2.2 ⟨e1, e2, e3⟩
/-- the arrays are as they were -/
theorem lq_UA.ar (hA : lq_UA G w) (f : ab_frm W G M M') (c : lq_Uo W) : M'.1 (w 122) = M.1 (w 122) ∧ M'.1 (w 123) = M.1 (w 123) ∧ M'.1 (w 124) = M.1 (w 124) ∧ M'.1 (w 344) = M.1 (w 344) := by
  refine ⟨funext fun k => (f _ k ?_).1, funext fun k => (f _ k ?_).1, funext fun k => (f _ k ?_).1, funext fun k => (f _ k ?_).1⟩
  · rw [hA.2.1]; rintro ⟨r, hr, e1, -⟩; exact (c r hr).1 e1
  · rw [hA.2.2.1]; rintro ⟨r, hr, e1, -⟩; exact (c r hr).2.1 e1
  · rw [hA.2.2.2.1]; rintro ⟨r, hr, e1, -⟩; exact (c r hr).2.2.1 e1
  · rw [hA.2.2.2.2]; rintro ⟨r, hr, e1, -⟩; exact (c r hr).2.2.2.1 e1
theorem lq_U.go (h : lq_U G M x m s w) (gx : G x = (1011, 0)) (gm : G m = (1012, 0)) (gs : G s = (51100, 537)) (f : ab_frm W G M M') (c : lq_Uk W) : lq_U G M' x m s w := by
  obtain ⟨hA, hB, z, z1, z2, z3, z4⟩ := h
  obtain ⟨a1, a2, a3, a4⟩ := hA.ar f c.1
  have es : ∀ k, k < 184 → M'.1 s k = M.1 s k := fun k hk => (f _ k (by
    rw [gs]; rintro ⟨r, hr, e1, e2, e3⟩; exact (c.2 r hr).2.2 ⟨e1, by omega⟩)).1
  refine ⟨hA, hB.go hA gx gm f c.1, z, (f _ _ ?_).1.trans z1, z2.cg (fun i _ => by rw [a4]) (es 0 (by decide)) (fun i hi => es _ (by omega)), (f _ _ ?_).1.trans z3, fun i hi => ?_⟩
  · rw [gm]; rintro ⟨r, hr, e1, e2, e3⟩; exact (c.2 r hr).2.1 ⟨e1, e2, e3⟩
  · rw [hA.1]; rintro ⟨r, hr, e1, e2, e3⟩; exact (c.2 r hr).1 ⟨e1, e2⟩
  · rw [a1, a2, a3, a4]; exact z4 i hi
theorem lq_U.mv (h : lq_U G M x m s w) (e1 : M'.1 = M.1) (e2 : M'.2.2 = M.2.2) : lq_U G M' x m s w := by
  unfold lq_U lq_UB lq_Uc; rw [e1, e2]; exact h
end UG
/-! ===== what offer and undo do ===== -/
/-- a bid is set on the class's side -/
def lq_sb (w : Nat → Nat) (p t v : Nat) (n : Int) (M M' : mj_M) : Prop := M'.2 = M.2 ∧ (∀ a, a ≠ w p → a ≠ w (p + 12 + t) → M'.1 a = M.1 a) ∧ (∀ k, k ≠ 5 → M'.1 (w p) k = M.1 (w p) k) ∧ M'.1 (w p) 5 = M.1 (w p) 5 - (if 0 < M.1 (w (p + 12 + t)) v then 1 else 0) + (if 0 < n then 1 else 0) ∧ M'.1 (w (p + 12 + t)) = rv_up (M.1 (w (p + 12 + t))) v n
/-- how many are kept, by how much they move -/
def lq_zs (z z' h : Nat) : Prop := (z < 8 ∧ z' = z ∧ h = 0) ∨ (z = 8 ∧ z' = 7 ∧ h = 1)
/-- one more to be undone, the class's -/
def lq_kp (w : Nat → Nat) (z' h : Nat) (k o b : Int) (M M' : mj_M) : Prop := M'.2 = M.2 ∧ (∀ a, a ≠ w 121 → a ≠ w 122 → a ≠ w 123 → a ≠ w 124 → M'.1 a = M.1 a) ∧ M'.1 (w 121) 3 = ((z' + 1 : Nat) : Int) ∧ (∀ i, i < z' → M'.1 (w 122) i = M.1 (w 122) (i + h) ∧ M'.1 (w 123) i = M.1 (w 123) (i + h) ∧ M'.1 (w 124) i = M.1 (w 124) (i + h)) ∧ M'.1 (w 122) z' = k ∧ M'.1 (w 123) z' = o ∧ M'.1 (w 124) z' = b
/-- an offer of the reference -/
def lq_ro (w : Nat → Nat) (m s z' h j : Nat) (k o n : Int) (M M' : mj_M) : Prop := M'.2 = M.2 ∧ (∀ a, a ≠ m → a ≠ w 344 → a ≠ s → M'.1 a = M.1 a) ∧ M'.1 m 28 = ((z' + 1 : Nat) : Int) ∧ (∀ i, i < 3 * z' → M'.1 (w 344) i = M.1 (w 344) (i + 3 * h)) ∧ M'.1 (w 344) (3 * z') = k ∧ M'.1 (w 344) (3 * z' + 1) = o ∧ M'.1 (w 344) (3 * z' + 2) = M.1 s j ∧ M'.1 s = rv_up (M.1 s) j n
def lq_ok (H : Nat → Int) (k o n : Int) : Prop := (0 ≤ k ∧ k < H 0) ∧ (0 ≤ o ∧ o ≤ 11) ∧ (0 ≤ n ∧ n ≤ 999) ∧ ¬ (H (12 * k + o + 88).toNat = 0 ∧ 0 < n ∧ 40 ≤ lq_ct (fun i => H (88 + i)) 96)
/-- the reference's bids with one of them set -/
theorem lq_ct_s {H : Nat → Int} {j : Nat} {n : Int} (h1 : 88 ≤ j) (h2 : j < 184) : lq_ct (fun i => rv_up H j n (88 + i)) 96 = lq_ct (fun i => H (88 + i)) 96 - (if 0 < H j then 1 else 0) + (if 0 < n then 1 else 0) := by
  have k := lq_ct_up (f := fun i => H (88 + i)) (g := fun i => rv_up H j n (88 + i)) (j := j - 88) (fun i hi => rv_up_n (by omega)) 96 (by omega)
  have e : 88 + (j - 88) = j := by omega
  simp only [e, rv_up_s] at k
  exact k
/-- what a PLAIN's bids are within -/
def rv_r6 (H : Nat → Int) (o : Nat) : Prop := rv_r4 H o ∧ (∀ t v, t < 8 → v < 12 → 0 ≤ H (o + (88 + 12 * t + v)) ∧ H (o + (88 + 12 * t + v)) ≤ 999 ∧ ((t : Int) < H o ∨ H (o + (88 + 12 * t + v)) = 0)) ∧ lq_ct (fun i => H (o + (88 + i))) 96 ≤ 40
theorem rv_r6.cg {H H' : Nat → Int} {o o' : Nat} (h : rv_r6 H o) (e : ∀ k, k < 184 → H' (o' + k) = H (o + k)) : rv_r6 H' o' := by
  obtain ⟨h1, h2, h3⟩ := h
  have e0 : H' o' = H o := e 0 (by decide)
  refine ⟨h1.cg (fun k hk => e k (by omega)), fun t v ht hv => ?_, ?_⟩
  · rw [e0, e _ (by omega)]; exact h2 t v ht hv
  · rw [lq_ct_cg (g := fun i => H (o + (88 + i))) 96 (fun i hi => e _ (by omega))]; exact h3
theorem rv_r6.of {H PL WA : Nat → Int} {TO BI : Nat → Nat → Int} (h : rv_H H PL WA TO BI) (r : rv_ps PL WA TO BI) : rv_r6 H 0 := by
  refine ⟨rv_r4.of h r, fun t v ht hv => ?_, ?_⟩
  · rw [Nat.zero_add, (h.2.2.2.2.2.2 t v ht hv).1, h.1]; exact r.2.2.2.2.2.2.2.1 t v ht hv
  · have a := r.2.1.2
    rw [r.2.2.2.2.2.2.2.2] at a
    unfold rv_ct at a
    rw [lq_ct_cg (g := fun i => BI (i / 12) (i % 12)) 96 (fun i hi => by
      have := (h.2.2.2.2.2.2 (i / 12) (i % 12) (by omega) (by omega)).1
      rw [show 88 + 12 * (i / 12) + i % 12 = 0 + (88 + i) by omega] at this
      exact this)]
    exact a
theorem rv_r6.set {H : Nat → Int} {j : Nat} {n : Int} (h : rv_r6 H 0) (h1 : 88 ≤ j) (h2 : j < 184) (hn : 0 ≤ n ∧ n ≤ 999) (ht : (((j - 88) / 12 : Nat) : Int) < H 0) (hc : lq_ct (fun i => rv_up H j n (88 + i)) 96 ≤ 40) : rv_r6 (rv_up H j n) 0 := by
  obtain ⟨a1, a2, a3⟩ := h
  have n0 : rv_up H j n 0 = H 0 := rv_up_n (by omega)
  refine ⟨a1.cg (fun k hk => rv_up_n (by omega)), fun t v ht2 hv => ?_, ?_⟩
  · rw [n0]
    by_cases e : 0 + (88 + 12 * t + v) = j
    · rw [e, rv_up_s]; exact ⟨hn.1, hn.2, Or.inl (by omega)⟩
    · rw [rv_up_n e]; exact a2 t v ht2 hv
  · rw [lq_ct_cg (g := fun i => rv_up H j n (88 + i)) 96 (fun i hi => by rw [Nat.zero_add])]; exact hc
end
section
/-! ===== setBid, keep, offer, undo of the class (laid by a program) ===== -/
theorem r_X3_setBid {G : mj_G} {M : mj_M} {x p q : Nat} {w : Nat → Nat} {Q : mj_P} {d : Nat} (gx : G x = (1011, 0)) (hA : lq_A G w) (hB : lq_B M w x) (hN : lq_N M w p q) {t v n : Int} (t1 : 0 ≤ t) (t2 : t < 8) (v1 : 0 ≤ v) (v2 : v < 12) (c1 : -1000 ≤ M.1 (w p) 5) (c2 : M.1 (w p) 5 ≤ 1000) (h : ∀ M', lq_sb w p t.toNat v.toNat n M M' → Q none G M') : mj_R mj_tab (d + 1) 47 [.inr (.inr (some (w p))), .inl t, .inl v, .inl n] G M Q := by
  obtain ⟨gpl, gna, gta, gba, gwa, gtr, gbr, itr, ibr, p0, p1, p2, p3, rt, rb⟩ := lq_K hA hB hN.pin.1
  have gnw := hA.2.2.1
  have gr := gbr t.toNat (by omega)
  have npr : w p ≠ w (p + 12 + t.toNat) := hn_ne gpl gr (by decide)
  refine ⟨Nat.le_of_ble_eq_true rfl, ?_⟩
  show wz d mt_X3_setBid.2.2.2.2.1 Q mt_X3_setBid.2.2.2.2.1 [some (.inr (.inr (some (w p)))), some (.inl t), some (.inl v), some (.inl n)] [] G M _ _
  refine w_aln rfl ?_
  refine w_gr gpl rfl (by decide) rfl (p2) ?_
  refine w_iln rfl ?_
  refine w_aald gba rfl (by show (0 : Int) ≤ t; omega) (by show t < ((8 : Nat) : Int); omega) (rb _ (by show t.toNat < 8; omega)) ?_
  refine w_iln rfl ?_
  refine w_iald (v := (M.1 (w (p + 12 + t.toNat)) v.toNat)) (gbr _ (by show t.toNat < 8; omega)) rfl (by show (0 : Int) ≤ v; omega) (by show v < ((12 : Nat) : Int); omega) (rfl) ?_
  refine w_ifle (fun c1 => ?_) (fun c1 => ?_)
  · skip
    refine w_iln rfl ?_
    refine w_ifle (fun c2 => ?_) (fun c2 => ?_)
    · skip
      refine w_aln rfl ?_
      refine w_gr gpl rfl (by decide) rfl (p2) ?_
      refine w_iln rfl ?_
      refine w_aald gba rfl (by show (0 : Int) ≤ t; omega) (by show t < ((8 : Nat) : Int); omega) (rb _ (by show t.toNat < 8; omega)) ?_
      refine w_iln rfl ?_
      refine w_iln rfl ?_
      refine w_iast (gbr _ (by show t.toNat < 8; omega)) rfl (by decide) (by show (0 : Int) ≤ v; omega) (by show v < ((12 : Nat) : Int); omega) ?_
      refine w_ret (h _ ⟨rfl, fun a a1 a2 => (wz_c a2).trans (rfl), fun k hk => (hn_n (Or.inl npr)).trans (rfl), ?_, ?_⟩)
      · have e5 : (mj_p0 M (w (p + 12 + t.toNat)) v.toNat n).1 (w p) 5 = (M.1 (w p) 5) := (hn_n (Or.inl npr)).trans (rfl)
        rw [e5]
        (repeat' split) <;> omega
      · funext k
        by_cases e : k = v.toNat
        · subst e; rw [rv_up_s]; exact hn_s
        · rw [rv_up_n e]; exact (hn_n (Or.inr e)).trans (rfl)
    · skip
      refine w_aln rfl ?_
      refine w_dupr ?_
      refine w_gi gpl rfl (by decide) rfl (rfl) ?_
      refine w_ic ?_
      refine w_add ⟨by show (-2147483648 : Int) ≤ (M.1 (w p) 5) + 1; omega, by show (M.1 (w p) 5) + 1 < (2147483648 : Int); omega⟩ ?_
      refine w_pi gpl rfl (by decide) rfl (fun q => by cases q) ?_
      refine w_aln rfl ?_
      refine w_gr gpl rfl (by decide) rfl (p2) ?_
      refine w_iln rfl ?_
      refine w_aald gba rfl (by show (0 : Int) ≤ t; omega) (by show t < ((8 : Nat) : Int); omega) (rb _ (by show t.toNat < 8; omega)) ?_
      refine w_iln rfl ?_
      refine w_iln rfl ?_
      refine w_iast (gbr _ (by show t.toNat < 8; omega)) rfl (by decide) (by show (0 : Int) ≤ v; omega) (by show v < ((12 : Nat) : Int); omega) ?_
      refine w_ret (h _ ⟨rfl, fun a a1 a2 => (wz_c a2).trans ((wz_c a1).trans (rfl)), fun k hk => (hn_n (Or.inl npr)).trans ((hn_n (Or.inr hk)).trans (rfl)), ?_, ?_⟩)
      · have e5 : (mj_p0 (mj_p0 M (w p) 5 ((M.1 (w p) 5) + 1)) (w (p + 12 + t.toNat)) v.toNat n).1 (w p) 5 = (M.1 (w p) 5) + 1 := (hn_n (Or.inl npr)).trans (hn_s)
        rw [e5]
        (repeat' split) <;> omega
      · funext k
        by_cases e : k = v.toNat
        · subst e; rw [rv_up_s]; exact hn_s
        · rw [rv_up_n e]; exact (hn_n (Or.inr e)).trans ((hn_n (Or.inl (Ne.symm npr))).trans (rfl))
  · skip
    refine w_aln rfl ?_
    refine w_dupr ?_
    refine w_gi gpl rfl (by decide) rfl (rfl) ?_
    refine w_ic ?_
    refine w_sub ⟨by show (-2147483648 : Int) ≤ (M.1 (w p) 5) - 1; omega, by show (M.1 (w p) 5) - 1 < (2147483648 : Int); omega⟩ ?_
    refine w_pi gpl rfl (by decide) rfl (fun q => by cases q) ?_
    refine w_iln rfl ?_
    refine w_ifle (fun c3 => ?_) (fun c3 => ?_)
    · skip
      refine w_aln rfl ?_
      refine w_gr gpl rfl (by decide) rfl (p2) ?_
      refine w_iln rfl ?_
      refine w_aald gba rfl (by show (0 : Int) ≤ t; omega) (by show t < ((8 : Nat) : Int); omega) (rb _ (by show t.toNat < 8; omega)) ?_
      refine w_iln rfl ?_
      refine w_iln rfl ?_
      refine w_iast (gbr _ (by show t.toNat < 8; omega)) rfl (by decide) (by show (0 : Int) ≤ v; omega) (by show v < ((12 : Nat) : Int); omega) ?_
      refine w_ret (h _ ⟨rfl, fun a a1 a2 => (wz_c a2).trans ((wz_c a1).trans (rfl)), fun k hk => (hn_n (Or.inl npr)).trans ((hn_n (Or.inr hk)).trans (rfl)), ?_, ?_⟩)
      · have e5 : (mj_p0 (mj_p0 M (w p) 5 ((M.1 (w p) 5) - 1)) (w (p + 12 + t.toNat)) v.toNat n).1 (w p) 5 = (M.1 (w p) 5) - 1 := (hn_n (Or.inl npr)).trans (hn_s)
        rw [e5]
        (repeat' split) <;> omega
      · funext k
        by_cases e : k = v.toNat
        · subst e; rw [rv_up_s]; exact hn_s
        · rw [rv_up_n e]; exact (hn_n (Or.inr e)).trans ((hn_n (Or.inl (Ne.symm npr))).trans (rfl))
    · skip
      refine w_aln rfl ?_
      refine w_dupr ?_
      refine w_gi gpl rfl (by decide) rfl (hn_s) ?_
      refine w_ic ?_
      refine w_add ⟨by show (-2147483648 : Int) ≤ ((M.1 (w p) 5) - 1) + 1; omega, by show ((M.1 (w p) 5) - 1) + 1 < (2147483648 : Int); omega⟩ ?_
      refine w_pi gpl rfl (by decide) rfl (fun q => by cases q) ?_
      refine w_aln rfl ?_
      refine w_gr gpl rfl (by decide) rfl (p2) ?_
      refine w_iln rfl ?_
      refine w_aald gba rfl (by show (0 : Int) ≤ t; omega) (by show t < ((8 : Nat) : Int); omega) (rb _ (by show t.toNat < 8; omega)) ?_
      refine w_iln rfl ?_
      refine w_iln rfl ?_
      refine w_iast (gbr _ (by show t.toNat < 8; omega)) rfl (by decide) (by show (0 : Int) ≤ v; omega) (by show v < ((12 : Nat) : Int); omega) ?_
      refine w_ret (h _ ⟨rfl, fun a a1 a2 => (wz_c a2).trans ((wz_c a1).trans ((wz_c a1).trans (rfl))), fun k hk => (hn_n (Or.inl npr)).trans ((hn_n (Or.inr hk)).trans ((hn_n (Or.inr hk)).trans (rfl))), ?_, ?_⟩)
      · have e5 : (mj_p0 (mj_p0 (mj_p0 M (w p) 5 ((M.1 (w p) 5) - 1)) (w p) 5 (((M.1 (w p) 5) - 1) + 1)) (w (p + 12 + t.toNat)) v.toNat n).1 (w p) 5 = ((M.1 (w p) 5) - 1) + 1 := (hn_n (Or.inl npr)).trans (hn_s)
        rw [e5]
        (repeat' split) <;> omega
      · funext k
        by_cases e : k = v.toNat
        · subst e; rw [rv_up_s]; exact hn_s
        · rw [rv_up_n e]; exact (hn_n (Or.inr e)).trans ((hn_n (Or.inl (Ne.symm npr))).trans ((hn_n (Or.inl (Ne.symm npr))).trans (rfl)))
theorem r_keep2 {G : mj_G} {M : mj_M} {x m : Nat} {w : Nat → Nat} {Q : mj_P} {d : Nat} (hUA : lq_UA G w) (hUB : lq_UB M w x m) {k o b : Int} {z : Nat} (hz : z < 8) (z3 : M.1 (w 121) 3 = (z : Int)) (cb sb : Nat) (h : ∀ M', lq_kp w z 0 k o b M M' → Q none G M') : wz d mt_X8_keep.2.2.2.2.1 Q (mt_X8_keep.2.2.2.2.1.drop 31) [some (.inr (.inr (some (w 121)))), some (.inl k), some (.inl o), some (.inl b)] [] G M cb sb := by
  obtain ⟨gud, gut, gum, gub, gun⟩ := id hUA
  have tz : ((z : Int)).toNat = z := by omega
  refine w_aln rfl ?_
  refine w_gr gud rfl (by decide) rfl (hUB.2.1) ?_
  refine w_aln rfl ?_
  refine w_gi gud rfl (by decide) rfl (z3) ?_
  refine w_iln rfl ?_
  refine w_iast gut rfl (by decide) (by show (0 : Int) ≤ ((z : Nat) : Int); omega) (by show ((z : Nat) : Int) < ((8 : Nat) : Int); omega) ?_
  refine w_aln rfl ?_
  refine w_gr gud rfl (by decide) rfl (hUB.2.2.1) ?_
  refine w_aln rfl ?_
  refine w_gi gud rfl (by decide) rfl ((hn_n (Or.inl (hn_ne gud gut (by decide)))).trans (z3)) ?_
  refine w_iln rfl ?_
  refine w_iast gum rfl (by decide) (by show (0 : Int) ≤ ((z : Nat) : Int); omega) (by show ((z : Nat) : Int) < ((8 : Nat) : Int); omega) ?_
  refine w_aln rfl ?_
  refine w_gr gud rfl (by decide) rfl (hUB.2.2.2.1) ?_
  refine w_aln rfl ?_
  refine w_gi gud rfl (by decide) rfl ((hn_n (Or.inl (hn_ne gud gum (by decide)))).trans ((hn_n (Or.inl (hn_ne gud gut (by decide)))).trans (z3))) ?_
  refine w_iln rfl ?_
  refine w_iast gub rfl (by decide) (by show (0 : Int) ≤ ((z : Nat) : Int); omega) (by show ((z : Nat) : Int) < ((8 : Nat) : Int); omega) ?_
  refine w_aln rfl ?_
  refine w_dupr ?_
  refine w_gi gud rfl (by decide) rfl ((hn_n (Or.inl (hn_ne gud gub (by decide)))).trans ((hn_n (Or.inl (hn_ne gud gum (by decide)))).trans ((hn_n (Or.inl (hn_ne gud gut (by decide)))).trans (z3)))) ?_
  refine w_ic ?_
  refine w_add ⟨by show (-2147483648 : Int) ≤ ((z : Nat) : Int) + 1; omega, by show ((z : Nat) : Int) + 1 < (2147483648 : Int); omega⟩ ?_
  refine w_pi gud rfl (by decide) rfl (fun q => by cases q) ?_
  rw [tz]
  refine w_ret (h _ ⟨rfl, fun a a1 a2 a3 a4 => (wz_c a1).trans ((wz_c a4).trans ((wz_c a3).trans (wz_c a2))), ?_, fun i hi => ⟨?_, ?_, ?_⟩, ?_, ?_, ?_⟩)
  · exact hn_s.trans (by omega)
  · exact (hn_n (Or.inl (hn_ne gut gud (by decide)))).trans ((hn_n (Or.inl (hn_ne gut gub (by decide)))).trans ((hn_n (Or.inl (hn_ne gut gum (by decide)))).trans ((hn_n (Or.inr (by omega))).trans (rfl))))
  · exact (hn_n (Or.inl (hn_ne gum gud (by decide)))).trans ((hn_n (Or.inl (hn_ne gum gub (by decide)))).trans ((hn_n (Or.inr (by omega))).trans ((hn_n (Or.inl (hn_ne gum gut (by decide)))).trans (rfl))))
  · exact (hn_n (Or.inl (hn_ne gub gud (by decide)))).trans ((hn_n (Or.inr (by omega))).trans ((hn_n (Or.inl (hn_ne gub gum (by decide)))).trans ((hn_n (Or.inl (hn_ne gub gut (by decide)))).trans (rfl))))
  · exact (hn_n (Or.inl (hn_ne gut gud (by decide)))).trans ((hn_n (Or.inl (hn_ne gut gub (by decide)))).trans ((hn_n (Or.inl (hn_ne gut gum (by decide)))).trans (hn_s)))
  · exact (hn_n (Or.inl (hn_ne gum gud (by decide)))).trans ((hn_n (Or.inl (hn_ne gum gub (by decide)))).trans (hn_s))
  · exact (hn_n (Or.inl (hn_ne gub gud (by decide)))).trans (hn_s)
theorem lq_c1 {M : mj_M} {a x : Nat} (h : x ≠ a) : (mj_cp0 M a a 1 0 7).1 x = M.1 x := funext fun _ => if_neg (fun e => h e.1)
theorem lq_c2 {M : mj_M} {a i : Nat} (h : i < 7) : (mj_cp0 M a a 1 0 7).1 a i = M.1 a (i + 1) := (if_pos ⟨rfl, Nat.zero_le i, by omega⟩).trans (by rw [Nat.sub_zero, Nat.add_comm])
theorem r_X8_keep {G : mj_G} {M : mj_M} {x m : Nat} {w : Nat → Nat} {Q : mj_P} {d : Nat} (hUA : lq_UA G w) (hUB : lq_UB M w x m) {k o b : Int} {z : Nat} (hz : z ≤ 8) (z3 : M.1 (w 121) 3 = (z : Int)) (h : ∀ z' h' M', lq_zs z z' h' → lq_kp w z' h' k o b M M' → Q none G M') : mj_R mj_tab (d + 1) 87 [.inr (.inr (some (w 121))), .inl k, .inl o, .inl b] G M Q := by
  obtain ⟨gud, gut, gum, gub, gun⟩ := id hUA
  refine ⟨Nat.le_of_ble_eq_true rfl, ?_⟩
  show wz d mt_X8_keep.2.2.2.2.1 Q mt_X8_keep.2.2.2.2.1 [some (.inr (.inr (some (w 121)))), some (.inl k), some (.inl o), some (.inl b)] [] G M _ _
  refine w_aln rfl ?_
  refine w_gi gud rfl (by decide) rfl z3 ?_
  refine w_bp ?_
  refine w_cmlt (fun c => ?_) (fun c => ?_)
  · exact r_keep2 hUA hUB (by omega) z3 _ _ (fun M' hk => h z 0 M' (Or.inl ⟨by omega, rfl, rfl⟩) hk)
  · have e8 : z = 8 := by omega
    subst e8
    refine w_aln rfl ?_
    refine w_gr gud rfl (by decide) rfl hUB.2.1 ?_
    refine w_ic ?_
    refine w_aln rfl ?_
    refine w_gr gud rfl (by decide) rfl hUB.2.1 ?_
    refine w_ic ?_
    refine w_bp ?_
    refine w_cp0 gut rfl gut rfl (by decide) (by decide) (by decide) (by decide) (by decide) (by decide) (Nat.le_of_ble_eq_true rfl) ?_
    refine w_aln rfl ?_
    refine w_gr gud rfl (by decide) rfl hUB.2.2.1 ?_
    refine w_ic ?_
    refine w_aln rfl ?_
    refine w_gr gud rfl (by decide) rfl hUB.2.2.1 ?_
    refine w_ic ?_
    refine w_bp ?_
    refine w_cp0 gum rfl gum rfl (by decide) (by decide) (by decide) (by decide) (by decide) (by decide) (Nat.le_of_ble_eq_true rfl) ?_
    refine w_aln rfl ?_
    refine w_gr gud rfl (by decide) rfl hUB.2.2.2.1 ?_
    refine w_ic ?_
    refine w_aln rfl ?_
    refine w_gr gud rfl (by decide) rfl hUB.2.2.2.1 ?_
    refine w_ic ?_
    refine w_bp ?_
    refine w_cp0 gub rfl gub rfl (by decide) (by decide) (by decide) (by decide) (by decide) (by decide) (Nat.le_of_ble_eq_true rfl) ?_
    refine w_aln rfl ?_
    refine w_bp ?_
    refine w_pi gud rfl (by decide) rfl (fun q => by cases q) ?_
    have n2 : w 122 ≠ w 121 := hn_ne gut gud (by decide)
    have n3 : w 123 ≠ w 121 := hn_ne gum gud (by decide)
    have n4 : w 124 ≠ w 121 := hn_ne gub gud (by decide)
    have n23 : w 122 ≠ w 123 := hn_ne gut gum (by decide)
    have n24 : w 122 ≠ w 124 := hn_ne gut gub (by decide)
    have n34 : w 123 ≠ w 124 := hn_ne gum gub (by decide)
    refine r_keep2 (M := mj_p0 (mj_cp0 (mj_cp0 (mj_cp0 M (w 122) (w 122) 1 0 7) (w 123) (w 123) 1 0 7) (w 124) (w 124) 1 0 7) (w 121) 3 7) (z := 7) hUA hUB (by decide) hn_s _ _ (fun M' hk => h 7 1 M' (Or.inr ⟨rfl, rfl, rfl⟩) ?_)
    obtain ⟨k1, k2, k3, k4, k5⟩ := hk
    refine ⟨k1, fun a a1 a2 a3 a4 => (k2 a a1 a2 a3 a4).trans ((wz_c a1).trans ((lq_c1 a4).trans ((lq_c1 a3).trans (lq_c1 a2)))), k3, fun i hi => ?_, k5⟩
    obtain ⟨q1, q2, q3⟩ := k4 i hi
    refine ⟨q1.trans ((hn_n (Or.inl n2)).trans ?_), q2.trans ((hn_n (Or.inl n3)).trans ?_), q3.trans ((hn_n (Or.inl n4)).trans ?_)⟩
    · exact (congrFun (lq_c1 n24) i).trans ((congrFun (lq_c1 n23) i).trans (lq_c2 hi))
    · exact (congrFun (lq_c1 n34) i).trans ((lq_c2 hi).trans (congrFun (lq_c1 (Ne.symm n23)) _))
    · exact (lq_c2 hi).trans ((congrFun (lq_c1 (Ne.symm n34)) _).trans (congrFun (lq_c1 (Ne.symm n24)) _))
theorem lq_rB {H : Nat → Int} {w : Nat → Nat} {p t v j : Nat} {M : mj_M} (h : rv_G6 H 0 w p M) (ht : t < 8) (hv : v < 12) (e : j = 88 + 12 * t + v) : M.1 (w (p + 12 + t)) v = H j := by
  subst e; rw [← h.2.1 t v ht hv, Nat.zero_add]
set_option maxRecDepth 100000 in
theorem r_X11_offer5 {G : mj_G} {M : mj_M} {x m s p q : Nat} {w : Nat → Nat} {Q : mj_P} {d : Nat} (gx : G x = (1011, 0)) (hA : lq_A G w) (hB : lq_B M w x) (hN : lq_N M w p q) (hUA : lq_UA G w) (hUB : lq_UB M w x m) (hG6 : rv_G6 (M.1 s) 0 w p M) (b0 : 0 ≤ M.1 s 0 ∧ M.1 s 0 ≤ 8) {z1 z2 z3 : Int} {z : Nat} (hz : z ≤ 8) (zu : M.1 (w 121) 3 = (z : Int)) (h0 : ¬ lq_ok (M.1 s) z1 z2 z3 → Q (some (.inl 0)) G M) (h1 : lq_ok (M.1 s) z1 z2 z3 → ∀ z' h' M1 M2, lq_zs z z' h' → lq_kp w z' h' z1 z2 (M.1 s (12 * z1 + z2 + 88).toNat) M M1 → lq_sb w p z1.toNat z2.toNat z3 M1 M2 → Q (some (.inl 1)) G M2) : mj_R mj_tab (d + 3) 136 [.inr (.inr (some x)), .inl z1, .inl z2, .inl z3] G M Q := by
  obtain ⟨gpl, gna, gta, gba, gwa, gtr, gbr, itr, ibr, p0, p1, p2, p3, rt, rb⟩ := lq_K hA hB hN.pin.1
  have gnw := hA.2.2.1
  obtain ⟨gud, gut, gum, gub, gun⟩ := id hUA
  have hG := hG6.1
  have hG5 := hG6
  have cb5 := lq_ct_b (fun i => M.1 s (0 + (88 + i))) 96
  have c5 := hG6.2.2
  have e5 : lq_ct (fun i => M.1 s (0 + (88 + i))) 96 = lq_ct (fun i => M.1 s (88 + i)) 96 := lq_ct_cg 96 (fun i _ => by rw [Nat.zero_add])
  refine ⟨Nat.le_of_ble_eq_true rfl, ?_⟩
  show wz (d + 2) mt_X11_offer.2.2.2.2.1 Q mt_X11_offer.2.2.2.2.1 [some (.inr (.inr (some x))), some (.inl z1), some (.inl z2), some (.inl z3), none] [] G M _ _
  refine w_aln rfl ?_
  refine w_iln rfl ?_
  refine w_cv (st := []) rfl gx rfl (Nat.le_of_ble_eq_true rfl) (fun kk h => h) ⟨Nat.le_of_ble_eq_true rfl, ?_⟩
  show wz (d + 1) mt_X11_isTown.2.2.2.2.1 _ mt_X11_isTown.2.2.2.2.1 [some (.inr (.inr (some x))), some (.inl z1)] [] _ _ _ _
  refine w_iln rfl ?_
  refine w_iflt (fun c1 => ?_) (fun c1 => ?_)
  · skip
    refine w_ic ?_
    refine w_iret (fun _ => Or.inl rfl) ?_
    refine w_ifeq (fun c2 => ?_) (fun c2 => ?_)
    · skip
      refine w_ic ?_
      exact w_iret (fun _ => Or.inl rfl) (h0 (by unfold lq_ok; omega))
    · exfalso; omega
  · skip
    refine w_iln rfl ?_
    refine w_aln rfl ?_
    refine w_gr gx rfl (by decide) rfl (hB.2.1) ?_
    refine w_gr gnw rfl (by decide) rfl (hN.1) ?_
    refine w_gi gpl rfl (by decide) rfl (hG.1.symm) ?_
    refine w_cmge (fun c3 => ?_) (fun c3 => ?_)
    · skip
      refine w_ic ?_
      refine w_iret (fun _ => Or.inl rfl) ?_
      refine w_ifeq (fun c4 => ?_) (fun c4 => ?_)
      · skip
        refine w_ic ?_
        exact w_iret (fun _ => Or.inl rfl) (h0 (by unfold lq_ok; omega))
      · exfalso; omega
    · skip
      refine w_ic ?_
      refine w_goto ?_
      refine w_iret (fun _ => Or.inr rfl) ?_
      refine w_ifeq (fun c5 => ?_) (fun c5 => ?_)
      · exfalso; omega
      · skip
        refine w_iln rfl ?_
        refine w_cs (st := []) rfl (Nat.le_of_ble_eq_true rfl) (fun kk h => h) ⟨Nat.le_of_ble_eq_true rfl, ?_⟩
        show wz (d + 1) mt_X11_isMonth.2.2.2.2.1 _ mt_X11_isMonth.2.2.2.2.1 [some (.inl z2)] [] _ _ _ _
        refine w_iln rfl ?_
        refine w_iflt (fun c6 => ?_) (fun c6 => ?_)
        · skip
          refine w_ic ?_
          refine w_iret (fun _ => Or.inl rfl) ?_
          refine w_ifeq (fun c7 => ?_) (fun c7 => ?_)
          · skip
            refine w_ic ?_
            exact w_iret (fun _ => Or.inl rfl) (h0 (by unfold lq_ok; omega))
          · exfalso; omega
        · skip
          refine w_iln rfl ?_
          refine w_bp ?_
          refine w_cmge (fun c8 => ?_) (fun c8 => ?_)
          · skip
            refine w_ic ?_
            refine w_iret (fun _ => Or.inl rfl) ?_
            refine w_ifeq (fun c9 => ?_) (fun c9 => ?_)
            · skip
              refine w_ic ?_
              exact w_iret (fun _ => Or.inl rfl) (h0 (by unfold lq_ok; omega))
            · exfalso; omega
          · skip
            refine w_ic ?_
            refine w_goto ?_
            refine w_iret (fun _ => Or.inr rfl) ?_
            refine w_ifeq (fun c10 => ?_) (fun c10 => ?_)
            · exfalso; omega
            · skip
              refine w_iln rfl ?_
              refine w_iflt (fun c11 => ?_) (fun c11 => ?_)
              · skip
                refine w_ic ?_
                exact w_iret (fun _ => Or.inl rfl) (h0 (by unfold lq_ok; omega))
              · skip
                refine w_iln rfl ?_
                refine w_sp ?_
                refine w_cmle (fun c12 => ?_) (fun c12 => ?_)
                · skip
                  refine w_aln rfl ?_
                  refine w_gr gx rfl (by decide) rfl (hB.2.1) ?_
                  refine w_gr gnw rfl (by decide) rfl (hN.1) ?_
                  refine w_gr gpl rfl (by decide) rfl (p2) ?_
                  refine w_iln rfl ?_
                  refine w_aald gba rfl (by show (0 : Int) ≤ z1; omega) (by show z1 < ((8 : Nat) : Int); omega) (rb _ (by show z1.toNat < 8; omega)) ?_
                  refine w_iln rfl ?_
                  refine w_iald (v := (M.1 s (12 * z1 + z2 + 88).toNat)) (gbr _ (by show z1.toNat < 8; omega)) rfl (by show (0 : Int) ≤ z2; omega) (by show z2 < ((12 : Nat) : Int); omega) (lq_rB hG5 (by show z1.toNat < 8; omega) (by show z2.toNat < 12; omega) (by show (12 * z1 + z2 + 88).toNat = 88 + 12 * z1.toNat + z2.toNat; omega)) ?_
                  refine w_is ?_
                  show wz _ _ _ _ [some (.inr (.inr (some x))), some (.inl z1), some (.inl z2), some (.inl z3), some (.inl (M.1 s (12 * z1 + z2 + 88).toNat))] _ _ _ _ _
                  refine w_il rfl ?_
                  refine w_ifne (fun c13 => ?_) (fun c13 => ?_)
                  · skip
                    refine w_aln rfl ?_
                    refine w_gr gx rfl (by decide) rfl (hUB.1) ?_
                    refine w_iln rfl ?_
                    refine w_iln rfl ?_
                    refine w_il rfl ?_
                    refine w_cv (st := []) rfl gud rfl (Nat.le_of_ble_eq_true rfl) (fun kk h => h) (r_X8_keep (d := d + 1) hUA hUB hz zu (fun z9 h9 M1 hzs hk => ?_))
                    refine w_aln rfl ?_
                    refine w_gr gx rfl (by decide) rfl ((congrFun (congrFun (congrArg Prod.snd hk.1) _) _).trans (hB.2.1)) ?_
                    refine w_gr gnw rfl (by decide) rfl ((congrFun (congrFun (congrArg Prod.snd hk.1) _) _).trans (hN.1)) ?_
                    refine w_iln rfl ?_
                    refine w_iln rfl ?_
                    refine w_iln rfl ?_
                    have hB1 : lq_B M1 w x := by unfold lq_B; rw [hk.1]; exact hB
                    have hN1 : lq_N M1 w p q := by unfold lq_N; rw [hk.1]; exact hN
                    have f5 : M1.1 (w p) 5 = M.1 (w p) 5 := congrFun (hk.2.1 _ (hn_ne gpl gud (by decide)) (hn_ne gpl gut (by decide)) (hn_ne gpl gum (by decide)) (hn_ne gpl gub (by decide))) 5
                    refine w_cv (st := []) rfl gpl rfl (Nat.le_of_ble_eq_true rfl) (fun kk h => h) (r_X3_setBid (M := M1) (d := d + 1) gx hA hB1 hN1 (by omega) (by omega) (by omega) (by omega) (by omega) (by omega) (fun M2 hs => ?_))
                    refine w_ic ?_
                    exact w_iret (fun _ => Or.inr rfl) (h1 (by unfold lq_ok; omega) z9 h9 M1 M2 hzs hk hs)
                  · skip
                    refine w_iln rfl ?_
                    refine w_ifle (fun c14 => ?_) (fun c14 => ?_)
                    · skip
                      refine w_aln rfl ?_
                      refine w_gr gx rfl (by decide) rfl (hUB.1) ?_
                      refine w_iln rfl ?_
                      refine w_iln rfl ?_
                      refine w_il rfl ?_
                      refine w_cv (st := []) rfl gud rfl (Nat.le_of_ble_eq_true rfl) (fun kk h => h) (r_X8_keep (d := d + 1) hUA hUB hz zu (fun z9 h9 M1 hzs hk => ?_))
                      refine w_aln rfl ?_
                      refine w_gr gx rfl (by decide) rfl ((congrFun (congrFun (congrArg Prod.snd hk.1) _) _).trans (hB.2.1)) ?_
                      refine w_gr gnw rfl (by decide) rfl ((congrFun (congrFun (congrArg Prod.snd hk.1) _) _).trans (hN.1)) ?_
                      refine w_iln rfl ?_
                      refine w_iln rfl ?_
                      refine w_iln rfl ?_
                      have hB1 : lq_B M1 w x := by unfold lq_B; rw [hk.1]; exact hB
                      have hN1 : lq_N M1 w p q := by unfold lq_N; rw [hk.1]; exact hN
                      have f5 : M1.1 (w p) 5 = M.1 (w p) 5 := congrFun (hk.2.1 _ (hn_ne gpl gud (by decide)) (hn_ne gpl gut (by decide)) (hn_ne gpl gum (by decide)) (hn_ne gpl gub (by decide))) 5
                      refine w_cv (st := []) rfl gpl rfl (Nat.le_of_ble_eq_true rfl) (fun kk h => h) (r_X3_setBid (M := M1) (d := d + 1) gx hA hB1 hN1 (by omega) (by omega) (by omega) (by omega) (by omega) (by omega) (fun M2 hs => ?_))
                      refine w_ic ?_
                      exact w_iret (fun _ => Or.inr rfl) (h1 (by unfold lq_ok; omega) z9 h9 M1 M2 hzs hk hs)
                    · skip
                      refine w_aln rfl ?_
                      refine w_gr gx rfl (by decide) rfl (hB.2.1) ?_
                      refine w_gr gnw rfl (by decide) rfl (hN.1) ?_
                      refine w_gi gpl rfl (by decide) rfl (rfl) ?_
                      refine w_bp ?_
                      refine w_cmlt (fun c15 => ?_) (fun c15 => ?_)
                      · skip
                        refine w_aln rfl ?_
                        refine w_gr gx rfl (by decide) rfl (hUB.1) ?_
                        refine w_iln rfl ?_
                        refine w_iln rfl ?_
                        refine w_il rfl ?_
                        refine w_cv (st := []) rfl gud rfl (Nat.le_of_ble_eq_true rfl) (fun kk h => h) (r_X8_keep (d := d + 1) hUA hUB hz zu (fun z9 h9 M1 hzs hk => ?_))
                        refine w_aln rfl ?_
                        refine w_gr gx rfl (by decide) rfl ((congrFun (congrFun (congrArg Prod.snd hk.1) _) _).trans (hB.2.1)) ?_
                        refine w_gr gnw rfl (by decide) rfl ((congrFun (congrFun (congrArg Prod.snd hk.1) _) _).trans (hN.1)) ?_
                        refine w_iln rfl ?_
                        refine w_iln rfl ?_
                        refine w_iln rfl ?_
                        have hB1 : lq_B M1 w x := by unfold lq_B; rw [hk.1]; exact hB
                        have hN1 : lq_N M1 w p q := by unfold lq_N; rw [hk.1]; exact hN
                        have f5 : M1.1 (w p) 5 = M.1 (w p) 5 := congrFun (hk.2.1 _ (hn_ne gpl gud (by decide)) (hn_ne gpl gut (by decide)) (hn_ne gpl gum (by decide)) (hn_ne gpl gub (by decide))) 5
                        refine w_cv (st := []) rfl gpl rfl (Nat.le_of_ble_eq_true rfl) (fun kk h => h) (r_X3_setBid (M := M1) (d := d + 1) gx hA hB1 hN1 (by omega) (by omega) (by omega) (by omega) (by omega) (by omega) (fun M2 hs => ?_))
                        refine w_ic ?_
                        exact w_iret (fun _ => Or.inr rfl) (h1 (by unfold lq_ok; omega) z9 h9 M1 M2 hzs hk hs)
                      · skip
                        refine w_ic ?_
                        exact w_iret (fun _ => Or.inl rfl) (h0 (by unfold lq_ok; omega))
                · skip
                  refine w_ic ?_
                  exact w_iret (fun _ => Or.inl rfl) (h0 (by unfold lq_ok; omega))
theorem r_X11_undo5 {G : mj_G} {M : mj_M} {x m s p q : Nat} {w : Nat → Nat} {Q : mj_P} {d : Nat} (gx : G x = (1011, 0)) (hA : lq_A G w) (hB : lq_B M w x) (hN : lq_N M w p q) (hUA : lq_UA G w) (hUB : lq_UB M w x m) {z : Nat} (hz : z ≤ 8) (zu : M.1 (w 121) 3 = (z : Int)) (c1 : -900 ≤ M.1 (w p) 5) (c2 : M.1 (w p) 5 ≤ 900) (hb : ∀ i, i < z → (0 ≤ M.1 (w 122) i ∧ M.1 (w 122) i < 8) ∧ (0 ≤ M.1 (w 123) i ∧ M.1 (w 123) i < 12)) (h0 : z = 0 → Q (some (.inl (-1))) G M) (h1 : ∀ y, z = y + 1 → ∀ M2, lq_sb w p (M.1 (w 122) y).toNat (M.1 (w 123) y).toNat (M.1 (w 124) y) (mj_p0 M (w 121) 3 (y : Int)) M2 → Q (some (.inl (y : Int))) G M2) : mj_R mj_tab (d + 3) 154 [.inr (.inr (some x))] G M Q := by
  obtain ⟨gpl, gna, gta, gba, gwa, gtr, gbr, itr, ibr, p0, p1, p2, p3, rt, rb⟩ := lq_K hA hB hN.pin.1
  have gnw := hA.2.2.1
  obtain ⟨gud, gut, gum, gub, gun⟩ := id hUA
  refine ⟨Nat.le_of_ble_eq_true rfl, ?_⟩
  show wz (d + 2) mt_X11_undo.2.2.2.2.1 Q mt_X11_undo.2.2.2.2.1 [some (.inr (.inr (some x)))] [] G M _ _
  refine w_aln rfl ?_
  refine w_gr gx rfl (by decide) rfl hUB.1 ?_
  refine w_aln rfl ?_
  refine w_gr gx rfl (by decide) rfl hB.2.1 ?_
  refine w_gr gnw rfl (by decide) rfl hN.1 ?_
  refine w_cv (st := []) rfl gud rfl (Nat.le_of_ble_eq_true rfl) (fun kk h => h) ⟨Nat.le_of_ble_eq_true rfl, ?_⟩
  show wz (d + 1) mt_X8_back.2.2.2.2.1 _ mt_X8_back.2.2.2.2.1 [some (.inr (.inr (some (w 121)))), some (.inr (.inr (some (w p))))] [] _ _ _ _
  refine w_aln rfl ?_
  refine w_gi gud rfl (by decide) rfl zu ?_
  refine w_ifgt (fun c => ?_) (fun c => ?_)
  · obtain ⟨y, rfl⟩ : ∃ y, z = y + 1 := ⟨z - 1, by omega⟩
    have by_ := hb y (by omega)
    have ty : ((y : Int)).toNat = y := by omega
    refine w_aln rfl ?_
    refine w_dupr ?_
    refine w_gi gud rfl (by decide) rfl zu ?_
    refine w_ic ?_
    refine w_sub ⟨by omega, by omega⟩ ?_
    rw [show (((y + 1 : Nat) : Int) - 1) = (y : Int) by omega]
    refine w_pi gud rfl (by decide) rfl (fun q => by cases q) ?_
    refine w_aln rfl ?_
    refine w_aln rfl ?_
    refine w_gr gud rfl (by decide) rfl hUB.2.1 ?_
    refine w_aln rfl ?_
    refine w_gi gud rfl (by decide) rfl hn_s ?_
    refine w_iald (v := M.1 (w 122) y) gut rfl (by omega) (by show (y : Int) < ((8 : Nat) : Int); omega) (by rw [ty]; exact hn_n (Or.inl (hn_ne gut gud (by decide)))) ?_
    refine w_aln rfl ?_
    refine w_gr gud rfl (by decide) rfl hUB.2.2.1 ?_
    refine w_aln rfl ?_
    refine w_gi gud rfl (by decide) rfl hn_s ?_
    refine w_iald (v := M.1 (w 123) y) gum rfl (by omega) (by show (y : Int) < ((8 : Nat) : Int); omega) (by rw [ty]; exact hn_n (Or.inl (hn_ne gum gud (by decide)))) ?_
    refine w_aln rfl ?_
    refine w_gr gud rfl (by decide) rfl hUB.2.2.2.1 ?_
    refine w_aln rfl ?_
    refine w_gi gud rfl (by decide) rfl hn_s ?_
    refine w_iald (v := M.1 (w 124) y) gub rfl (by omega) (by show (y : Int) < ((8 : Nat) : Int); omega) (by rw [ty]; exact hn_n (Or.inl (hn_ne gub gud (by decide)))) ?_
    refine w_cv (st := []) rfl gpl rfl (Nat.le_of_ble_eq_true rfl) (fun kk h => h) (r_X3_setBid (M := mj_p0 M (w 121) 3 (y : Int)) (d := d) gx hA hB hN by_.1.1 by_.1.2 by_.2.1 by_.2.2 ?_ ?_ (fun M2 hs => ?_))
    · rw [show (mj_p0 M (w 121) 3 (y : Int)).1 (w p) 5 = M.1 (w p) 5 from hn_n (Or.inl (hn_ne gpl gud (by decide)))]; omega
    · rw [show (mj_p0 M (w 121) 3 (y : Int)).1 (w p) 5 = M.1 (w p) 5 from hn_n (Or.inl (hn_ne gpl gud (by decide)))]; omega
    · refine w_aln rfl ?_
      refine w_gi gud rfl (by decide) rfl (v := (y : Int)) ((congrFun (hs.2.1 _ (hn_ne gud gpl (by decide)) (hn_ne gud (gbr _ (by omega)) (by decide))) 3).trans hn_s) ?_
      refine w_iret (fun q => by cases q) ?_
      exact w_iret (fun q => by cases q) (h1 y rfl M2 hs)
  · refine w_ic ?_
    refine w_iret (fun q => by cases q) ?_
    exact w_iret (fun q => by cases q) (h0 (by omega))
end
section
/-! ===== bidMany, offer, undo, worth, must of the reference: bids (laid by a program) ===== -/
theorem r_bm1 {G : mj_G} {M : mj_M} {m s : Nat} {Q : mj_P} {d : Nat} (gm : G m = (1012, 0)) (gs : G s = (51100, 537)) (m6 : M.2.2 m 6 = some s) : ∀ (j i : Nat) (cb sb : Nat), i + j = 96 → Q (some (.inl (lq_ct (fun i => M.1 s (88 + i)) 96))) G M → wz d mt_X12_bidMany.2.2.2.2.1 Q (mt_X12_bidMany.2.2.2.2.1.drop 4) [some (.inr (.inr (some m))), some (.inl (lq_ct (fun i => M.1 s (88 + i)) i)), some (.inl (i : Int))] [] G M cb sb := by
  intro j
  induction j with
  | zero =>
    intro i cb sb e h
    have e : i = 96 := by omega
    subst e
    refine w_iln rfl ?_
    refine w_bp ?_
    refine w_cmge (fun c => ?_) (fun c => by exfalso; omega)
    refine w_iln rfl ?_
    exact w_iret (fun q => by cases q) h
  | succ j ih =>
    intro i cb sb e h
    have b := lq_ct_b (fun i => M.1 s (88 + i)) i
    have ti : ((88 : Int) + (i : Int)).toNat = 88 + i := by omega
    refine w_iln rfl ?_
    refine w_bp ?_
    refine w_cmge (fun c => by exfalso; omega) (fun c => ?_)
    refine w_iln rfl ?_
    refine w_aln rfl ?_
    refine w_gr gm rfl (by decide) rfl m6 ?_
    refine w_bp ?_
    refine w_iln rfl ?_
    refine w_add ⟨by omega, by omega⟩ ?_
    refine w_iald (v := M.1 s (88 + i)) gs rfl (by omega) (by show (88 : Int) + (i : Int) < ((537 : Nat) : Int); omega) (by rw [ti]) ?_
    refine w_ifle (fun c2 => ?_) (fun c2 => ?_)
    · refine w_ic ?_
      refine w_add ⟨by omega, by omega⟩ ?_
      refine w_isn ?_
      refine w_ii rfl ⟨by omega, by omega⟩ ?_
      refine w_goto ?_
      have e1 : lq_ct (fun i => M.1 s (88 + i)) i + 0 = lq_ct (fun i => M.1 s (88 + i)) (i + 1) := by
        show _ = lq_ct (fun i => M.1 s (88 + i)) i + (if 0 < M.1 s (88 + i) then 1 else 0)
        rw [if_neg (by omega)]
      rw [e1]
      exact ih (i + 1) _ _ (by omega) h
    · refine w_ic ?_
      refine w_goto ?_
      refine w_add ⟨by omega, by omega⟩ ?_
      refine w_isn ?_
      refine w_ii rfl ⟨by omega, by omega⟩ ?_
      refine w_goto ?_
      have e1 : lq_ct (fun i => M.1 s (88 + i)) i + 1 = lq_ct (fun i => M.1 s (88 + i)) (i + 1) := by
        show _ = lq_ct (fun i => M.1 s (88 + i)) i + (if 0 < M.1 s (88 + i) then 1 else 0)
        rw [if_pos c2]
      rw [e1]
      exact ih (i + 1) _ _ (by omega) h
theorem r_X12_bidMany {G : mj_G} {M : mj_M} {m s : Nat} {Q : mj_P} {d : Nat} (gm : G m = (1012, 0)) (gs : G s = (51100, 537)) (m6 : M.2.2 m 6 = some s) (h : Q (some (.inl (lq_ct (fun i => M.1 s (88 + i)) 96))) G M) : mj_R mj_tab (d + 1) 166 [.inr (.inr (some m))] G M Q := by
  refine ⟨Nat.le_of_ble_eq_true rfl, ?_⟩
  show wz d mt_X12_bidMany.2.2.2.2.1 Q mt_X12_bidMany.2.2.2.2.1 [some (.inr (.inr (some m))), none, none] [] G M _ _
  refine w_ic ?_
  refine w_isn ?_
  refine w_ic ?_
  refine w_isn ?_
  exact r_bm1 gm gs m6 96 0 _ _ (by decide) h
theorem r_of1 {G : mj_G} {M0 : mj_M} {m un : Nat} {Q : mj_P} {d : Nat} {k o n : Int} (gm : G m = (1012, 0)) (gu : G un = (57100, 24)) (m27 : M0.2.2 m 27 = some un) : ∀ (f i : Nat) (M : mj_M) (cb sb : Nat), i + f = 21 → M.2 = M0.2 → (∀ a, a ≠ un → M.1 a = M0.1 a) → (∀ j, j < i → M.1 un j = M0.1 un (j + 3)) → (∀ j, i ≤ j → M.1 un j = M0.1 un j) → (∀ M' cb sb, M'.2 = M0.2 → (∀ a, a ≠ un → M'.1 a = M0.1 a) → (∀ j, j < 21 → M'.1 un j = M0.1 un (j + 3)) → wz d mt_X12_offer.2.2.2.2.1 Q (mt_X12_offer.2.2.2.2.1.drop 49) [some (.inr (.inr (some m))), some (.inl k), some (.inl o), some (.inl n), some (.inl 21)] [] G M' cb sb) → wz d mt_X12_offer.2.2.2.2.1 Q (mt_X12_offer.2.2.2.2.1.drop 34) [some (.inr (.inr (some m))), some (.inl k), some (.inl o), some (.inl n), some (.inl (i : Int))] [] G M cb sb := by
  intro f
  induction f with
  | zero =>
    intro i M cb sb e h2 h1 h3 h4 h
    have e : i = 21 := by omega
    subst e
    refine w_il rfl ?_
    refine w_bp ?_
    refine w_cmge (fun c => ?_) (fun c => by exfalso; omega)
    exact h M _ _ h2 h1 h3
  | succ f ih =>
    intro i M cb sb e h2 h1 h3 h4 h
    have ti : ((i : Int)).toNat = i := by omega
    have ti3 : ((i : Int) + 3).toNat = i + 3 := by omega
    refine w_il rfl ?_
    refine w_bp ?_
    refine w_cmge (fun c => by exfalso; omega) (fun c => ?_)
    refine w_aln rfl ?_
    refine w_gr gm rfl (by decide) rfl (by rw [h2]; exact m27) ?_
    refine w_il rfl ?_
    refine w_aln rfl ?_
    refine w_gr gm rfl (by decide) rfl (by rw [h2]; exact m27) ?_
    refine w_il rfl ?_
    refine w_ic ?_
    refine w_add ⟨by omega, by omega⟩ ?_
    refine w_iald (v := M0.1 un (i + 3)) gu rfl (by omega) (by show (i : Int) + 3 < ((24 : Nat) : Int); omega) (by rw [ti3]; exact h4 _ (by omega)) ?_
    refine w_iast gu rfl (by decide) (by omega) (by show (i : Int) < ((24 : Nat) : Int); omega) ?_
    refine w_ii rfl ⟨by omega, by omega⟩ ?_
    refine w_goto ?_
    rw [ti]
    refine ih (i + 1) _ _ _ (by omega) h2 (fun a a1 => (wz_c a1).trans (h1 a a1)) (fun j hj => ?_) (fun j hj => (hn_n (Or.inr (by omega))).trans (h4 j (by omega))) h
    rcases Nat.lt_or_ge j i with q | q
    · exact (hn_n (Or.inr (by omega))).trans (h3 j q)
    · rw [show j = i by omega]; exact hn_s
theorem r_of2 {G : mj_G} {M : mj_M} {m s : Nat} {w : Nat → Nat} {Q : mj_P} {d : Nat} {k o n : Int} {v4 : Option mj_V} (gm : G m = (1012, 0)) (gs : G s = (51100, 537)) (gu : G (w 344) = (57100, 24)) (m6 : M.2.2 m 6 = some s) (m27 : M.2.2 m 27 = some (w 344)) {z j : Nat} (hz : z < 8) (z3 : M.1 m 28 = (z : Int)) (k1 : 0 ≤ k) (k2 : k < 8) (o1 : 0 ≤ o) (o2 : o < 12) (hj : j = (12 * k + o + 88).toNat) (cb sb : Nat) (h : ∀ M', lq_ro w m s z 0 j k o n M M' → Q (some (.inl 1)) G M') : wz (d + 1) mt_X12_offer.2.2.2.2.1 Q (mt_X12_offer.2.2.2.2.1.drop 52) [some (.inr (.inr (some m))), some (.inl k), some (.inl o), some (.inl n), v4] [] G M cb sb := by
  have nm : w 344 ≠ m := hn_ne gu gm (by decide)
  have ns : w 344 ≠ s := hn_ne gu gs (by decide)
  have sm : s ≠ m := hn_ne gs gm (by decide)
  have e0 : ((3 : Int) * (z : Int)).toNat = 3 * z := by omega
  have e1 : ((3 : Int) * (z : Int) + 1).toNat = 3 * z + 1 := by omega
  have e2 : ((3 : Int) * (z : Int) + 2).toNat = 3 * z + 2 := by omega
  have ej : ((88 : Int) + 12 * k + o).toNat = j := by omega
  refine w_aln rfl ?_
  refine w_gr gm rfl (by decide) rfl m27 ?_
  refine w_ic ?_
  refine w_aln rfl ?_
  refine w_gi gm rfl (by decide) rfl z3 ?_
  refine w_mul ⟨by omega, by omega⟩ ?_
  refine w_iln rfl ?_
  refine w_iast gu rfl (by decide) (by omega) (by show (3 : Int) * (z : Int) < ((24 : Nat) : Int); omega) ?_
  rw [e0]
  refine w_aln rfl ?_
  refine w_gr gm rfl (by decide) rfl m27 ?_
  refine w_ic ?_
  refine w_aln rfl ?_
  refine w_gi gm rfl (by decide) rfl ((hn_n (Or.inl (Ne.symm nm))).trans z3) ?_
  refine w_mul ⟨by omega, by omega⟩ ?_
  refine w_ic ?_
  refine w_add ⟨by omega, by omega⟩ ?_
  refine w_iln rfl ?_
  refine w_iast gu rfl (by decide) (by omega) (by show (3 : Int) * (z : Int) + 1 < ((24 : Nat) : Int); omega) ?_
  rw [e1]
  refine w_aln rfl ?_
  refine w_gr gm rfl (by decide) rfl m27 ?_
  refine w_ic ?_
  refine w_aln rfl ?_
  refine w_gi gm rfl (by decide) rfl ((hn_n (Or.inl (Ne.symm nm))).trans ((hn_n (Or.inl (Ne.symm nm))).trans z3)) ?_
  refine w_mul ⟨by omega, by omega⟩ ?_
  refine w_ic ?_
  refine w_add ⟨by omega, by omega⟩ ?_
  refine w_aln rfl ?_
  refine w_iln rfl ?_
  refine w_iln rfl ?_
  refine w_cv (st := [.inl ((3 : Int) * (z : Int) + 2), .inr (.inr (some (w 344)))]) rfl gm rfl (Nat.le_of_ble_eq_true rfl) (fun kk h => h) ⟨Nat.le_of_ble_eq_true rfl, ?_⟩
  show wz d mt_X12_bidOf.2.2.2.2.1 _ mt_X12_bidOf.2.2.2.2.1 [some (.inr (.inr (some m))), some (.inl k), some (.inl o)] [] _ _ _ _
  refine w_aln rfl ?_
  refine w_gr gm rfl (by decide) rfl m6 ?_
  refine w_bp ?_
  refine w_bp ?_
  refine w_iln rfl ?_
  refine w_mul ⟨by omega, by omega⟩ ?_
  refine w_add ⟨by omega, by omega⟩ ?_
  refine w_iln rfl ?_
  refine w_add ⟨by omega, by omega⟩ ?_
  refine w_iald (v := M.1 s j) gs rfl (by omega) (by show (88 : Int) + 12 * k + o < ((537 : Nat) : Int); omega) (by rw [ej]; exact (hn_n (Or.inl (Ne.symm ns))).trans (hn_n (Or.inl (Ne.symm ns)))) ?_
  refine w_iret (fun q => by cases q) ?_
  refine w_iast gu rfl (by decide) (by omega) (by show (3 : Int) * (z : Int) + 2 < ((24 : Nat) : Int); omega) ?_
  rw [e2]
  refine w_aln rfl ?_
  refine w_dupr ?_
  refine w_gi gm rfl (by decide) rfl ((hn_n (Or.inl (Ne.symm nm))).trans ((hn_n (Or.inl (Ne.symm nm))).trans ((hn_n (Or.inl (Ne.symm nm))).trans z3))) ?_
  refine w_ic ?_
  refine w_add ⟨by omega, by omega⟩ ?_
  refine w_pi gm rfl (by decide) rfl (fun q => by cases q) ?_
  refine w_aln rfl ?_
  refine w_gr gm rfl (by decide) rfl m6 ?_
  refine w_bp ?_
  refine w_bp ?_
  refine w_iln rfl ?_
  refine w_mul ⟨by omega, by omega⟩ ?_
  refine w_add ⟨by omega, by omega⟩ ?_
  refine w_iln rfl ?_
  refine w_add ⟨by omega, by omega⟩ ?_
  refine w_iln rfl ?_
  refine w_iast gs rfl (by decide) (by omega) (by show (88 : Int) + 12 * k + o < ((537 : Nat) : Int); omega) ?_
  rw [ej]
  refine w_ic ?_
  refine w_iret (fun _ => Or.inr rfl) (h _ ⟨rfl, fun a a1 a2 a3 => (wz_c a3).trans ((wz_c a1).trans ((wz_c a2).trans ((wz_c a2).trans (wz_c a2)))), ?_, fun i hi => ?_, ?_, ?_, ?_, ?_⟩)
  · exact (hn_n (Or.inl (Ne.symm sm))).trans (hn_s.trans (by omega))
  · exact (hn_n (Or.inl ns)).trans ((hn_n (Or.inl nm)).trans ((hn_n (Or.inr (by omega))).trans ((hn_n (Or.inr (by omega))).trans (hn_n (Or.inr (by omega))))))
  · exact (hn_n (Or.inl ns)).trans ((hn_n (Or.inl nm)).trans ((hn_n (Or.inr (by omega))).trans ((hn_n (Or.inr (by omega))).trans hn_s)))
  · exact (hn_n (Or.inl ns)).trans ((hn_n (Or.inl nm)).trans ((hn_n (Or.inr (by omega))).trans hn_s))
  · exact (hn_n (Or.inl ns)).trans ((hn_n (Or.inl nm)).trans hn_s)
  · funext i
    by_cases e : i = j
    · subst e; rw [rv_up_s]; exact hn_s
    · rw [rv_up_n e]
      exact (hn_n (Or.inr e)).trans ((hn_n (Or.inl sm)).trans ((hn_n (Or.inl (Ne.symm ns))).trans ((hn_n (Or.inl (Ne.symm ns))).trans (hn_n (Or.inl (Ne.symm ns))))))
set_option maxRecDepth 100000 in
theorem r_X12_offer5 {G : mj_G} {M : mj_M} {m s : Nat} {w : Nat → Nat} {Q : mj_P} {d : Nat} {z1 z2 z3 : Int} (gm : G m = (1012, 0)) (gs : G s = (51100, 537)) (gu : G (w 344) = (57100, 24)) (m6 : M.2.2 m 6 = some s) (m27 : M.2.2 m 27 = some (w 344)) (b0 : 0 ≤ M.1 s 0 ∧ M.1 s 0 ≤ 8) (hc : (lq_ct (fun i => M.1 s (88 + i)) 96) ≤ 40) {z : Nat} (hz : z ≤ 8) (zu : M.1 m 28 = (z : Int)) (h0 : ¬ lq_ok (M.1 s) z1 z2 z3 → Q (some (.inl 0)) G (mj_p0 M m 0 0)) (h1 : lq_ok (M.1 s) z1 z2 z3 → ∀ z' h' M', lq_zs z z' h' → lq_ro w m s z' h' (12 * z1 + z2 + 88).toNat z1 z2 z3 M M' → Q (some (.inl 1)) G M') : mj_R mj_tab (d + 3) 220 [.inr (.inr (some m)), .inl z1, .inl z2, .inl z3] G M Q := by
  have sm : s ≠ m := hn_ne gs gm (by decide)
  have um : w 344 ≠ m := hn_ne gu gm (by decide)
  have es : (mj_p0 M m 0 0).1 s = M.1 s := wz_c sm
  refine ⟨Nat.le_of_ble_eq_true rfl, ?_⟩
  show wz (d + 2) mt_X12_offer.2.2.2.2.1 Q mt_X12_offer.2.2.2.2.1 [some (.inr (.inr (some m))), some (.inl z1), some (.inl z2), some (.inl z3), none] [] G M _ _
  refine w_aln rfl ?_
  refine w_ic ?_
  refine w_pi gm rfl (by decide) rfl (fun q => by cases q) ?_
  refine w_aln rfl ?_
  refine w_iln rfl ?_
  refine w_cv (st := []) rfl gm rfl (Nat.le_of_ble_eq_true rfl) (fun kk h => h) ⟨Nat.le_of_ble_eq_true rfl, ?_⟩
  show wz (d + 1) mt_X12_isTown.2.2.2.2.1 _ mt_X12_isTown.2.2.2.2.1 [some (.inr (.inr (some m))), some (.inl z1)] [] _ _ _ _
  refine w_iln rfl ?_
  refine w_ic ?_
  refine w_aln rfl ?_
  refine w_gr gm rfl (by decide) rfl (m6) ?_
  refine w_ic ?_
  refine w_iald (v := (M.1 s 0)) gs rfl (by show (0 : Int) ≤ 0; omega) (by show 0 < ((537 : Nat) : Int); omega) ((hn_n (Or.inl (hn_ne gs gm (by decide)))).trans (congrArg (M.1 s) (by show (0 : Int).toNat = 0; omega))) ?_
  refine w_ic ?_
  refine w_sub ⟨by show (-2147483648 : Int) ≤ (M.1 s 0) - 1; omega, by show (M.1 s 0) - 1 < (2147483648 : Int); omega⟩ ?_
  refine w_cs (st := []) rfl (Nat.le_of_ble_eq_true rfl) (fun kk h => h) ⟨Nat.le_of_ble_eq_true rfl, ?_⟩
  show wz (d) mt_X12_isIn.2.2.2.2.1 _ mt_X12_isIn.2.2.2.2.1 [some (.inl z1), some (.inl 0), some (.inl ((M.1 s 0) - 1))] [] _ _ _ _
  refine w_iln rfl ?_
  refine w_iln rfl ?_
  refine w_cmlt (fun c1 => ?_) (fun c1 => ?_)
  · skip
    refine w_ic ?_
    refine w_iret (fun _ => Or.inl rfl) ?_
    refine w_iret (fun _ => Or.inl rfl) ?_
    refine w_ifeq (fun c2 => ?_) (fun c2 => ?_)
    · skip
      refine w_ic ?_
      exact w_iret (fun _ => Or.inl rfl) (h0 (by unfold lq_ok; omega))
    · exfalso; omega
  · skip
    refine w_iln rfl ?_
    refine w_iln rfl ?_
    refine w_cmgt (fun c3 => ?_) (fun c3 => ?_)
    · skip
      refine w_ic ?_
      refine w_iret (fun _ => Or.inl rfl) ?_
      refine w_iret (fun _ => Or.inl rfl) ?_
      refine w_ifeq (fun c4 => ?_) (fun c4 => ?_)
      · skip
        refine w_ic ?_
        exact w_iret (fun _ => Or.inl rfl) (h0 (by unfold lq_ok; omega))
      · exfalso; omega
    · skip
      refine w_ic ?_
      refine w_goto ?_
      refine w_iret (fun _ => Or.inr rfl) ?_
      refine w_iret (fun _ => Or.inr rfl) ?_
      refine w_ifeq (fun c5 => ?_) (fun c5 => ?_)
      · exfalso; omega
      · skip
        refine w_iln rfl ?_
        refine w_cs (st := []) rfl (Nat.le_of_ble_eq_true rfl) (fun kk h => h) ⟨Nat.le_of_ble_eq_true rfl, ?_⟩
        show wz (d + 1) mt_X12_isMonth.2.2.2.2.1 _ mt_X12_isMonth.2.2.2.2.1 [some (.inl z2)] [] _ _ _ _
        refine w_iln rfl ?_
        refine w_ic ?_
        refine w_bp ?_
        refine w_cs (st := []) rfl (Nat.le_of_ble_eq_true rfl) (fun kk h => h) ⟨Nat.le_of_ble_eq_true rfl, ?_⟩
        show wz (d) mt_X12_isIn.2.2.2.2.1 _ mt_X12_isIn.2.2.2.2.1 [some (.inl z2), some (.inl 0), some (.inl 11)] [] _ _ _ _
        refine w_iln rfl ?_
        refine w_iln rfl ?_
        refine w_cmlt (fun c6 => ?_) (fun c6 => ?_)
        · skip
          refine w_ic ?_
          refine w_iret (fun _ => Or.inl rfl) ?_
          refine w_iret (fun _ => Or.inl rfl) ?_
          refine w_ifeq (fun c7 => ?_) (fun c7 => ?_)
          · skip
            refine w_ic ?_
            exact w_iret (fun _ => Or.inl rfl) (h0 (by unfold lq_ok; omega))
          · exfalso; omega
        · skip
          refine w_iln rfl ?_
          refine w_iln rfl ?_
          refine w_cmgt (fun c8 => ?_) (fun c8 => ?_)
          · skip
            refine w_ic ?_
            refine w_iret (fun _ => Or.inl rfl) ?_
            refine w_iret (fun _ => Or.inl rfl) ?_
            refine w_ifeq (fun c9 => ?_) (fun c9 => ?_)
            · skip
              refine w_ic ?_
              exact w_iret (fun _ => Or.inl rfl) (h0 (by unfold lq_ok; omega))
            · exfalso; omega
          · skip
            refine w_ic ?_
            refine w_goto ?_
            refine w_iret (fun _ => Or.inr rfl) ?_
            refine w_iret (fun _ => Or.inr rfl) ?_
            refine w_ifeq (fun c10 => ?_) (fun c10 => ?_)
            · exfalso; omega
            · skip
              refine w_iln rfl ?_
              refine w_ic ?_
              refine w_sp ?_
              refine w_cs (st := []) rfl (Nat.le_of_ble_eq_true rfl) (fun kk h => h) ⟨Nat.le_of_ble_eq_true rfl, ?_⟩
              show wz (d + 1) mt_X12_isIn.2.2.2.2.1 _ mt_X12_isIn.2.2.2.2.1 [some (.inl z3), some (.inl 0), some (.inl 999)] [] _ _ _ _
              refine w_iln rfl ?_
              refine w_iln rfl ?_
              refine w_cmlt (fun c11 => ?_) (fun c11 => ?_)
              · skip
                refine w_ic ?_
                refine w_iret (fun _ => Or.inl rfl) ?_
                refine w_ifeq (fun c12 => ?_) (fun c12 => ?_)
                · skip
                  refine w_ic ?_
                  exact w_iret (fun _ => Or.inl rfl) (h0 (by unfold lq_ok; omega))
                · exfalso; omega
              · skip
                refine w_iln rfl ?_
                refine w_iln rfl ?_
                refine w_cmgt (fun c13 => ?_) (fun c13 => ?_)
                · skip
                  refine w_ic ?_
                  refine w_iret (fun _ => Or.inl rfl) ?_
                  refine w_ifeq (fun c14 => ?_) (fun c14 => ?_)
                  · skip
                    refine w_ic ?_
                    exact w_iret (fun _ => Or.inl rfl) (h0 (by unfold lq_ok; omega))
                  · exfalso; omega
                · skip
                  refine w_ic ?_
                  refine w_goto ?_
                  refine w_iret (fun _ => Or.inr rfl) ?_
                  refine w_ifeq (fun c15 => ?_) (fun c15 => ?_)
                  · exfalso; omega
                  · skip
                    refine w_iln rfl ?_
                    refine w_ifle (fun c16 => ?_) (fun c16 => ?_)
                    · skip
                      refine w_aln rfl ?_
                      refine w_gi gm rfl (by decide) rfl ((hn_n (Or.inr (by decide))).trans zu) ?_
                      refine w_bp ?_
                      refine w_cmne (fun c17 => ?_) (fun c17 => ?_)
                      · skip
                        exact r_of2 (M := mj_p0 M m 0 0) (d := d + 1) gm gs gu m6 m27 (z := z) (by omega) ((hn_n (Or.inr (by decide))).trans zu) (by omega) (by omega) (by omega) (by omega) rfl _ _ (fun M' hr => h1 (by unfold lq_ok; omega) z 0 M' (Or.inl ⟨by omega, rfl, rfl⟩) (by
                          obtain ⟨q1, q2, q3, q4, q5, q6, q7, q8⟩ := hr
                          exact ⟨q1, fun a a1 a2 a3 => (q2 a a1 a2 a3).trans (wz_c a1), q3, fun i hi => (q4 i hi).trans (hn_n (Or.inl um)), q5, q6, q7.trans (by rw [es]), by rw [q8, es]⟩))
                      · skip
                        refine w_ic ?_
                        refine w_is ?_
                        show wz _ _ _ _ [some (.inr (.inr (some m))), some (.inl z1), some (.inl z2), some (.inl z3), some (.inl 0)] _ _ _ _ _
                        have e8 : z = 8 := by omega
                        subst e8
                        refine r_of1 (M0 := mj_p0 M m 0 0) gm gu m27 21 0 _ _ _ (by decide) rfl (fun _ _ => rfl) (fun j hj => absurd hj (Nat.not_lt_zero j)) (fun _ _ => rfl) (fun M1 cb sb g2 g1 g3 => ?_)
                        refine w_aln rfl ?_
                        refine w_bp ?_
                        refine w_pi gm rfl (by decide) rfl (fun q => by cases q) ?_
                        have es1 : (mj_p0 M1 m 28 7).1 s = M.1 s := (wz_c sm).trans ((g1 s (hn_ne gs gu (by decide))).trans es)
                        exact r_of2 (M := mj_p0 M1 m 28 7) (d := d + 1) gm gs gu (by show M1.2.2 m 6 = _; rw [g2]; exact m6) (by show M1.2.2 m 27 = _; rw [g2]; exact m27) (z := 7) (by decide) hn_s (by omega) (by omega) (by omega) (by omega) rfl _ _ (fun M' hr => h1 (by unfold lq_ok; omega) 7 1 M' (Or.inr ⟨rfl, rfl, rfl⟩) (by
                          obtain ⟨q1, q2, q3, q4, q5, q6, q7, q8⟩ := hr
                          exact ⟨q1.trans g2, fun a a1 a2 a3 => (q2 a a1 a2 a3).trans ((wz_c a1).trans ((g1 a a2).trans (wz_c a1))), q3, fun i hi => (q4 i hi).trans ((hn_n (Or.inl um)).trans ((g3 i (by omega)).trans (hn_n (Or.inl um)))), q5, q6, q7.trans (by rw [es1]), by rw [q8, es1]⟩))
                    · skip
                      refine w_aln rfl ?_
                      refine w_iln rfl ?_
                      refine w_iln rfl ?_
                      refine w_cv (st := []) rfl gm rfl (Nat.le_of_ble_eq_true rfl) (fun kk h => h) ⟨Nat.le_of_ble_eq_true rfl, ?_⟩
                      show wz (d + 1) mt_X12_bidOf.2.2.2.2.1 _ mt_X12_bidOf.2.2.2.2.1 [some (.inr (.inr (some m))), some (.inl z1), some (.inl z2)] [] _ _ _ _
                      refine w_aln rfl ?_
                      refine w_gr gm rfl (by decide) rfl (m6) ?_
                      refine w_bp ?_
                      refine w_bp ?_
                      refine w_iln rfl ?_
                      refine w_mul ⟨by show (-2147483648 : Int) ≤ 12 * z1; omega, by show 12 * z1 < (2147483648 : Int); omega⟩ ?_
                      refine w_add ⟨by show (-2147483648 : Int) ≤ 88 + (12 * z1); omega, by show 88 + (12 * z1) < (2147483648 : Int); omega⟩ ?_
                      refine w_iln rfl ?_
                      refine w_add ⟨by show (-2147483648 : Int) ≤ (88 + (12 * z1)) + z2; omega, by show (88 + (12 * z1)) + z2 < (2147483648 : Int); omega⟩ ?_
                      refine w_iald (v := (M.1 s (12 * z1 + z2 + 88).toNat)) gs rfl (by show (0 : Int) ≤ (88 + (12 * z1)) + z2; omega) (by show (88 + (12 * z1)) + z2 < ((537 : Nat) : Int); omega) ((hn_n (Or.inl (hn_ne gs gm (by decide)))).trans (congrArg (M.1 s) (by show ((88 + (12 * z1)) + z2).toNat = (12 * z1 + z2 + 88).toNat; omega))) ?_
                      refine w_iret (fun q => by cases q) ?_
                      refine w_ifne (fun c18 => ?_) (fun c18 => ?_)
                      · skip
                        refine w_aln rfl ?_
                        refine w_gi gm rfl (by decide) rfl ((hn_n (Or.inr (by decide))).trans zu) ?_
                        refine w_bp ?_
                        refine w_cmne (fun c19 => ?_) (fun c19 => ?_)
                        · skip
                          exact r_of2 (M := mj_p0 M m 0 0) (d := d + 1) gm gs gu m6 m27 (z := z) (by omega) ((hn_n (Or.inr (by decide))).trans zu) (by omega) (by omega) (by omega) (by omega) rfl _ _ (fun M' hr => h1 (by unfold lq_ok; omega) z 0 M' (Or.inl ⟨by omega, rfl, rfl⟩) (by
                            obtain ⟨q1, q2, q3, q4, q5, q6, q7, q8⟩ := hr
                            exact ⟨q1, fun a a1 a2 a3 => (q2 a a1 a2 a3).trans (wz_c a1), q3, fun i hi => (q4 i hi).trans (hn_n (Or.inl um)), q5, q6, q7.trans (by rw [es]), by rw [q8, es]⟩))
                        · skip
                          refine w_ic ?_
                          refine w_is ?_
                          show wz _ _ _ _ [some (.inr (.inr (some m))), some (.inl z1), some (.inl z2), some (.inl z3), some (.inl 0)] _ _ _ _ _
                          have e8 : z = 8 := by omega
                          subst e8
                          refine r_of1 (M0 := mj_p0 M m 0 0) gm gu m27 21 0 _ _ _ (by decide) rfl (fun _ _ => rfl) (fun j hj => absurd hj (Nat.not_lt_zero j)) (fun _ _ => rfl) (fun M1 cb sb g2 g1 g3 => ?_)
                          refine w_aln rfl ?_
                          refine w_bp ?_
                          refine w_pi gm rfl (by decide) rfl (fun q => by cases q) ?_
                          have es1 : (mj_p0 M1 m 28 7).1 s = M.1 s := (wz_c sm).trans ((g1 s (hn_ne gs gu (by decide))).trans es)
                          exact r_of2 (M := mj_p0 M1 m 28 7) (d := d + 1) gm gs gu (by show M1.2.2 m 6 = _; rw [g2]; exact m6) (by show M1.2.2 m 27 = _; rw [g2]; exact m27) (z := 7) (by decide) hn_s (by omega) (by omega) (by omega) (by omega) rfl _ _ (fun M' hr => h1 (by unfold lq_ok; omega) 7 1 M' (Or.inr ⟨rfl, rfl, rfl⟩) (by
                            obtain ⟨q1, q2, q3, q4, q5, q6, q7, q8⟩ := hr
                            exact ⟨q1.trans g2, fun a a1 a2 a3 => (q2 a a1 a2 a3).trans ((wz_c a1).trans ((g1 a a2).trans (wz_c a1))), q3, fun i hi => (q4 i hi).trans ((hn_n (Or.inl um)).trans ((g3 i (by omega)).trans (hn_n (Or.inl um)))), q5, q6, q7.trans (by rw [es1]), by rw [q8, es1]⟩))
                      · skip
                        refine w_aln rfl ?_
                        refine w_cv (st := []) rfl gm rfl (Nat.le_of_ble_eq_true rfl) (fun kk h => h) (r_X12_bidMany (M := mj_p0 M m 0 0) (d := d + 1) gm gs m6 ?_)
                        rw [es]
                        refine w_bp ?_
                        refine w_cmne (fun c20 => ?_) (fun c20 => ?_)
                        · skip
                          refine w_aln rfl ?_
                          refine w_gi gm rfl (by decide) rfl ((hn_n (Or.inr (by decide))).trans zu) ?_
                          refine w_bp ?_
                          refine w_cmne (fun c21 => ?_) (fun c21 => ?_)
                          · skip
                            exact r_of2 (M := mj_p0 M m 0 0) (d := d + 1) gm gs gu m6 m27 (z := z) (by omega) ((hn_n (Or.inr (by decide))).trans zu) (by omega) (by omega) (by omega) (by omega) rfl _ _ (fun M' hr => h1 (by unfold lq_ok; omega) z 0 M' (Or.inl ⟨by omega, rfl, rfl⟩) (by
                              obtain ⟨q1, q2, q3, q4, q5, q6, q7, q8⟩ := hr
                              exact ⟨q1, fun a a1 a2 a3 => (q2 a a1 a2 a3).trans (wz_c a1), q3, fun i hi => (q4 i hi).trans (hn_n (Or.inl um)), q5, q6, q7.trans (by rw [es]), by rw [q8, es]⟩))
                          · skip
                            refine w_ic ?_
                            refine w_is ?_
                            show wz _ _ _ _ [some (.inr (.inr (some m))), some (.inl z1), some (.inl z2), some (.inl z3), some (.inl 0)] _ _ _ _ _
                            have e8 : z = 8 := by omega
                            subst e8
                            refine r_of1 (M0 := mj_p0 M m 0 0) gm gu m27 21 0 _ _ _ (by decide) rfl (fun _ _ => rfl) (fun j hj => absurd hj (Nat.not_lt_zero j)) (fun _ _ => rfl) (fun M1 cb sb g2 g1 g3 => ?_)
                            refine w_aln rfl ?_
                            refine w_bp ?_
                            refine w_pi gm rfl (by decide) rfl (fun q => by cases q) ?_
                            have es1 : (mj_p0 M1 m 28 7).1 s = M.1 s := (wz_c sm).trans ((g1 s (hn_ne gs gu (by decide))).trans es)
                            exact r_of2 (M := mj_p0 M1 m 28 7) (d := d + 1) gm gs gu (by show M1.2.2 m 6 = _; rw [g2]; exact m6) (by show M1.2.2 m 27 = _; rw [g2]; exact m27) (z := 7) (by decide) hn_s (by omega) (by omega) (by omega) (by omega) rfl _ _ (fun M' hr => h1 (by unfold lq_ok; omega) 7 1 M' (Or.inr ⟨rfl, rfl, rfl⟩) (by
                              obtain ⟨q1, q2, q3, q4, q5, q6, q7, q8⟩ := hr
                              exact ⟨q1.trans g2, fun a a1 a2 a3 => (q2 a a1 a2 a3).trans ((wz_c a1).trans ((g1 a a2).trans (wz_c a1))), q3, fun i hi => (q4 i hi).trans ((hn_n (Or.inl um)).trans ((g3 i (by omega)).trans (hn_n (Or.inl um)))), q5, q6, q7.trans (by rw [es1]), by rw [q8, es1]⟩))
                        · skip
                          refine w_ic ?_
                          exact w_iret (fun _ => Or.inl rfl) (h0 (by unfold lq_ok; omega))
theorem r_X12_undo5 {G : mj_G} {M : mj_M} {m s : Nat} {w : Nat → Nat} {Q : mj_P} {d : Nat} (gm : G m = (1012, 0)) (gs : G s = (51100, 537)) (gu : G (w 344) = (57100, 24)) (m6 : M.2.2 m 6 = some s) (m27 : M.2.2 m 27 = some (w 344)) {z : Nat} (hz : z ≤ 8) (zu : M.1 m 28 = (z : Int)) (hb : ∀ i, i < z → (0 ≤ M.1 (w 344) (3 * i) ∧ M.1 (w 344) (3 * i) < 8) ∧ (0 ≤ M.1 (w 344) (3 * i + 1) ∧ M.1 (w 344) (3 * i + 1) < 12)) (h0 : z = 0 → Q (some (.inl (-1))) G (mj_p0 M m 0 0)) (h1 : ∀ y, z = y + 1 → Q (some (.inl (y : Int))) G (mj_p0 (mj_p0 (mj_p0 M m 0 0) m 28 (y : Int)) s (88 + 12 * M.1 (w 344) (3 * y) + M.1 (w 344) (3 * y + 1)).toNat (M.1 (w 344) (3 * y + 2)))) : mj_R mj_tab (d + 1) 253 [.inr (.inr (some m))] G M Q := by
  have um : w 344 ≠ m := hn_ne gu gm (by decide)
  have sm : s ≠ m := hn_ne gs gm (by decide)
  refine ⟨Nat.le_of_ble_eq_true rfl, ?_⟩
  show wz d mt_X12_undo.2.2.2.2.1 Q mt_X12_undo.2.2.2.2.1 [some (.inr (.inr (some m)))] [] G M _ _
  refine w_aln rfl ?_
  refine w_ic ?_
  refine w_pi gm rfl (by decide) rfl (fun q => by cases q) ?_
  refine w_aln rfl ?_
  refine w_gi gm rfl (by decide) rfl ((hn_n (Or.inr (by decide))).trans zu) ?_
  refine w_ifne (fun c => ?_) (fun c => ?_)
  · obtain ⟨y, rfl⟩ : ∃ y, z = y + 1 := ⟨z - 1, by omega⟩
    have by_ := hb y (by omega)
    have e0 : ((3 : Int) * (y : Int)).toNat = 3 * y := by omega
    have e1 : ((3 : Int) * (y : Int) + 1).toNat = 3 * y + 1 := by omega
    have e2 : ((3 : Int) * (y : Int) + 2).toNat = 3 * y + 2 := by omega
    have fu : ∀ i, (mj_p0 (mj_p0 M m 0 0) m 28 (y : Int)).1 (w 344) i = M.1 (w 344) i := fun i => (hn_n (Or.inl um)).trans (hn_n (Or.inl um))
    refine w_aln rfl ?_
    refine w_dupr ?_
    refine w_gi gm rfl (by decide) rfl ((hn_n (Or.inr (by decide))).trans zu) ?_
    refine w_ic ?_
    refine w_sub ⟨by omega, by omega⟩ ?_
    rw [show (((y + 1 : Nat) : Int) - 1) = (y : Int) by omega]
    refine w_pi gm rfl (by decide) rfl (fun q => by cases q) ?_
    refine w_aln rfl ?_
    refine w_gr gm rfl (by decide) rfl m6 ?_
    refine w_bp ?_
    refine w_bp ?_
    refine w_aln rfl ?_
    refine w_gr gm rfl (by decide) rfl m27 ?_
    refine w_ic ?_
    refine w_aln rfl ?_
    refine w_gi gm rfl (by decide) rfl hn_s ?_
    refine w_mul ⟨by omega, by omega⟩ ?_
    refine w_iald (v := M.1 (w 344) (3 * y)) gu rfl (by omega) (by show (3 : Int) * (y : Int) < ((24 : Nat) : Int); omega) (by rw [e0]; exact fu _) ?_
    refine w_mul ⟨by omega, by omega⟩ ?_
    refine w_add ⟨by omega, by omega⟩ ?_
    refine w_aln rfl ?_
    refine w_gr gm rfl (by decide) rfl m27 ?_
    refine w_ic ?_
    refine w_aln rfl ?_
    refine w_gi gm rfl (by decide) rfl hn_s ?_
    refine w_mul ⟨by omega, by omega⟩ ?_
    refine w_ic ?_
    refine w_add ⟨by omega, by omega⟩ ?_
    refine w_iald (v := M.1 (w 344) (3 * y + 1)) gu rfl (by omega) (by show (3 : Int) * (y : Int) + 1 < ((24 : Nat) : Int); omega) (by rw [e1]; exact fu _) ?_
    refine w_add ⟨by omega, by omega⟩ ?_
    refine w_aln rfl ?_
    refine w_gr gm rfl (by decide) rfl m27 ?_
    refine w_ic ?_
    refine w_aln rfl ?_
    refine w_gi gm rfl (by decide) rfl hn_s ?_
    refine w_mul ⟨by omega, by omega⟩ ?_
    refine w_ic ?_
    refine w_add ⟨by omega, by omega⟩ ?_
    refine w_iald (v := M.1 (w 344) (3 * y + 2)) gu rfl (by omega) (by show (3 : Int) * (y : Int) + 2 < ((24 : Nat) : Int); omega) (by rw [e2]; exact fu _) ?_
    refine w_iast gs rfl (by decide) (by omega) (by show (88 : Int) + 12 * M.1 (w 344) (3 * y) + M.1 (w 344) (3 * y + 1) < ((537 : Nat) : Int); omega) ?_
    refine w_aln rfl ?_
    refine w_gi gm rfl (by decide) rfl ((hn_n (Or.inl (Ne.symm sm))).trans hn_s) ?_
    exact w_iret (fun q => by cases q) (h1 y rfl)
  · refine w_ic ?_
    exact w_iret (fun q => by cases q) (h0 (by omega))
end
section
/-! ===== worth, must of the reference: the bids come back (laid by a program) ===== -/
theorem r_thinks {G : mj_G} {M : mj_M} {m dd : Nat} {Q : mj_P} (hd : ab_h cd_25 ≤ dd) (hI : ab_Inv G M) (gm : G m = (1012, 0)) (hQ : ∀ M', ab_Inv G M' → ab_frm (ab_w cd_25) G M M' → Q none G M') : mj_R mj_tab (dd + 1) 247 [.inr (.inr (some m))] G M Q := by
  refine ab_all_ok 214 (Nat.le_refl _) 25 (by decide) dd hd G M (0, hn_g [], 1, fun _ => some m) _ Q hn_Y0 (lw_RR gm (by decide) (by decide) (by decide)) (fun e he => by cases he) ⟨_, _, rfl, ⟨Nat.zero_lt_one, rfl⟩, rfl⟩ hI (fun r M' i f ⟨po, hpo, h⟩ => ?_)
  cases hpo with
  | head =>
    have hr : r = none := h.1
    rw [hr]; exact hQ M' i f
  | tail _ hpo => cases hpo
theorem r_forgets {G : mj_G} {M : mj_M} {m dd : Nat} {Q : mj_P} (hd : ab_h cd_22 ≤ dd) (hI : ab_Inv G M) (gm : G m = (1012, 0)) (hQ : ∀ M', ab_Inv G M' → ab_frm (ab_w cd_22) G M M' → Q none G M') : mj_R mj_tab (dd + 1) 189 [.inr (.inr (some m))] G M Q := by
  refine ab_all_ok 214 (Nat.le_refl _) 22 (by decide) dd hd G M (0, hn_g [], 1, fun _ => some m) _ Q hn_Y0 (lw_RR gm (by decide) (by decide) (by decide)) (fun e he => by cases he) ⟨_, _, rfl, ⟨Nat.zero_lt_one, rfl⟩, rfl⟩ hI (fun r M' i f ⟨po, hpo, h⟩ => ?_)
  cases hpo with
  | head =>
    have hr : r = none := h.1
    rw [hr]; exact hQ M' i f
  | tail _ hpo => cases hpo
theorem r_wholeYear {G : mj_G} {M : mj_M} {m dd : Nat} {z : Int} {Q : mj_P} (hd : ab_h cd_160 ≤ dd) (hI : ab_Inv G M) (gm : G m = (1012, 0)) (hz : 0 ≤ z ∧ z ≤ 1) (hQ : ∀ M', ab_Inv G M' → ab_frm (ab_w cd_160) G M M' → Q none G M') : mj_R mj_tab (dd + 1) 258 [.inr (.inr (some m)), .inl z] G M Q := by
  refine ab_all_ok 214 (Nat.le_refl _) 160 (by decide) dd hd G M (1, hn_g [z], 1, fun _ => some m) _ Q (hn_Y1 hz) (lw_RR gm (by decide) (by decide) (by decide)) (fun e he => by cases he) ⟨_, _, rfl, ⟨Nat.zero_lt_one, rfl⟩, _, _, rfl, ⟨_, rfl, hn_I (Nat.le_of_ble_eq_true rfl) rfl⟩, rfl⟩ hI (fun r M' i f ⟨po, hpo, h⟩ => ?_)
  cases hpo with
  | head =>
    have hr : r = none := h.1
    rw [hr]; exact hQ M' i f
  | tail _ hpo => cases hpo
theorem r_begins5 {G : mj_G} {M : mj_M} {m s dd : Nat} {Q : mj_P} (hd : ab_h cd_61 ≤ dd) (hI : ab_Inv G M) (gm : G m = (1012, 0)) (gs : G s = (51100, 537)) (m6 : M.2.2 m 6 = some s) (hQ : ∀ M', ab_Inv G M' → ab_frm (ab_w cd_61) G M M' → M'.1 s 222 = 0 → Q none G M') : mj_R mj_tab (dd + 1) 163 [.inr (.inr (some m))] G M Q := by
  refine ab_all_ok 214 (Nat.le_refl _) 61 (by decide) dd hd G M (1, hn_g [M.1 s 222], 2, lw_w2 m s) _ Q (hn_Y1 (show (0 : Int) ≤ M.1 s 222 ∧ M.1 s 222 ≤ 12 by have h := hI.1 s 222; rw [gs] at h; exact h)) ⟨rfl, fun i q e => by
    cases i with
    | zero => cases e; exact Or.inr (Or.inr (Or.inr ⟨by decide, by decide, by decide, m, rfl, gm⟩))
    | succ i => cases i with
      | zero => cases e; exact Or.inr (Or.inr (Or.inr ⟨by decide, by decide, by decide, s, rfl, gs⟩))
      | succ i => cases e⟩ (fun e he => by
    cases he with
    | head => exact ⟨Nat.le_of_ble_eq_true rfl, m, 6, rfl, rfl, by decide, Nat.le_of_ble_eq_true rfl, m6⟩
    | tail _ he => cases he with
      | head => exact ⟨Nat.le_of_ble_eq_true rfl, s, 222, rfl, rfl, by decide, hn_I (Nat.le_of_ble_eq_true rfl) rfl⟩
      | tail _ he => cases he) ⟨_, _, rfl, ⟨Nat.le_of_ble_eq_true rfl, rfl⟩, rfl⟩ hI (fun r M' i f ⟨po, hpo, h⟩ => ?_)
  cases hpo with
  | head =>
    have hr : r = none := h.1
    obtain ⟨a, ha, hx⟩ := h.2 _ (List.Mem.head _)
    cases ha
    rw [hr]; exact hQ M' i f hx
  | tail _ hpo => cases hpo
theorem r_month5 {G : mj_G} {M : mj_M} {m s dd : Nat} {z : Int} {Q : mj_P} (hd : ab_h cd_144 ≤ dd) (hI : ab_Inv G M) (gm : G m = (1012, 0)) (gs : G s = (51100, 537)) (m6 : M.2.2 m 6 = some s) (hz : -99 ≤ z ∧ z ≤ 99) (h2 : 0 ≤ M.1 s 222 ∧ M.1 s 222 ≤ 11) (hQ : ∀ M', ab_Inv G M' → ab_frm (ab_w cd_144) G M M' → M'.1 s 222 = M.1 s 222 + 1 → Q none G M') : mj_R mj_tab (dd + 1) 213 [.inr (.inr (some m)), .inl z] G M Q := by
  refine ab_all_ok 214 (Nat.le_refl _) 144 (by decide) dd hd G M (2, hn_g [z, M.1 s 222], 2, lw_w2 m s) _ Q (hn_Y2 hz h2) ⟨rfl, fun i q e => by
    cases i with
    | zero => cases e; exact Or.inr (Or.inr (Or.inr ⟨by decide, by decide, by decide, m, rfl, gm⟩))
    | succ i => cases i with
      | zero => cases e; exact Or.inr (Or.inr (Or.inr ⟨by decide, by decide, by decide, s, rfl, gs⟩))
      | succ i => cases e⟩ (fun e he => by
    cases he with
    | head => exact ⟨Nat.le_of_ble_eq_true rfl, m, 6, rfl, rfl, by decide, Nat.le_of_ble_eq_true rfl, m6⟩
    | tail _ he => cases he with
      | head => exact ⟨Nat.le_of_ble_eq_true rfl, s, 222, rfl, rfl, by decide, hn_I (Nat.le_of_ble_eq_true rfl) rfl⟩
      | tail _ he => cases he) ⟨_, _, rfl, ⟨Nat.le_of_ble_eq_true rfl, rfl⟩, _, _, rfl, ⟨_, rfl, hn_I (Nat.le_of_ble_eq_true rfl) rfl⟩, rfl⟩ hI (fun r M' i f ⟨po, hpo, h⟩ => ?_)
  cases hpo with
  | head =>
    have hr : r = none := h.1
    obtain ⟨a, ha, hx⟩ := h.2 _ (List.Mem.head _)
    cases ha
    rw [hr]; exact hQ M' i f hx
  | tail _ hpo => cases hpo
theorem ab_s_b : ∀ j, 88 ≤ j → j < 184 → ab_rg 51100 j = ab_ii := by
  intro j h1 h2
  have h : ∀ j : Fin 96, ab_rg 51100 (88 + j.val) = ab_ii := by decide +kernel
  have := h ⟨j - 88, by omega⟩
  rw [show 88 + (j - 88) = j by omega] at this
  exact this
/-- bids of s are as they were, but those from a to b -/
def lq_ke (s a b : Nat) (M M' : mj_M) : Prop := ∀ j, 88 ≤ j → j < 184 → ¬ (a ≤ j ∧ j < b) → M'.1 s j = M.1 s j
theorem lq_ke.fr {G : mj_G} {s a b : Nat} {M M' M'' : mj_M} {W : List (Nat × Nat × Nat)} (gs : G s = (51100, 537)) (h : lq_ke s a b M M') (f : ab_frm W G M' M'') (c : ∀ q ∈ W, ¬ (q.1 = 51100 ∧ q.2.1 < 184)) : lq_ke s a b M M'' := fun j h1 h2 h3 => (f s j (by
  rw [gs]; rintro ⟨r, hr, e1, e2, e3⟩; exact c r hr ⟨e1, by omega⟩)).1.trans (h j h1 h2 h3)
theorem hn_rr {G : mj_G} {M M' : mj_M} {W : List (Nat × Nat × Nat)} {a t n k : Nat} (ga : G a = (t, n)) (f : ab_frm W G M M') (c : ∀ q ∈ W, ¬ (q.1 = t ∧ q.2.1 ≤ k ∧ k ≤ q.2.2)) : M'.2.2 a k = M.2.2 a k := (f a k (by
  rw [ga]; rintro ⟨r, hr, e1, e2, e3⟩; exact c r hr ⟨e1, e2, e3⟩)).2
theorem hn_ri {G : mj_G} {M M' : mj_M} {W : List (Nat × Nat × Nat)} {a t n k : Nat} (ga : G a = (t, n)) (f : ab_frm W G M M') (c : ∀ q ∈ W, ¬ (q.1 = t ∧ q.2.1 ≤ k ∧ k ≤ q.2.2)) : M'.1 a k = M.1 a k := (f a k (by
  rw [ga]; rintro ⟨r, hr, e1, e2, e3⟩; exact c r hr ⟨e1, e2, e3⟩)).1
theorem r_wo1 {G : mj_G} {M0 : mj_M} {m s bk r : Nat} {Q : mj_P} {k v2 : Int} (gm : G m = (1012, 0)) (gs : G s = (51100, 537)) (gb : G bk = (65100, 12)) (m6 : M0.2.2 m 6 = some s) (m46 : M0.2.2 m 46 = some bk) (k1 : 0 ≤ k) (k2 : k < 8) (hr : r = (88 + 12 * k).toNat) : ∀ (f i : Nat) (M : mj_M) (cb sb : Nat), i + f = 12 → ab_Inv G M → M.2 = M0.2 → lq_ke s r (r + i) M0 M → (∀ l, l < i → M.1 bk l = M0.1 s (r + l)) → (∀ M' cb sb, ab_Inv G M' → M'.2 = M0.2 → lq_ke s r (r + 12) M0 M' → (∀ l, l < 12 → M'.1 bk l = M0.1 s (r + l)) → wz 39 mt_X12_worth.2.2.2.2.1 Q (mt_X12_worth.2.2.2.2.1.drop 45) [some (.inr (.inr (some m))), some (.inl k), some (.inl v2), some (.inl 12), none] [] G M' cb sb) → wz 39 mt_X12_worth.2.2.2.2.1 Q (mt_X12_worth.2.2.2.2.1.drop 21) [some (.inr (.inr (some m))), some (.inl k), some (.inl v2), some (.inl (i : Int)), none] [] G M cb sb := by
  have bs : bk ≠ s := hn_ne gb gs (by decide)
  intro f
  induction f with
  | zero =>
    intro i M cb sb e hI h2 h1 h3 h
    have e : i = 12 := by omega
    subst e
    refine w_iln rfl ?_
    refine w_bp ?_
    refine w_cmge (fun c => ?_) (fun c => by exfalso; omega)
    exact h M _ _ hI h2 h1 h3
  | succ f ih =>
    intro i M cb sb e hI h2 h1 h3 h
    have ti : ((i : Int)).toNat = i := by omega
    have tr : ((88 : Int) + 12 * k + (i : Int)).toNat = r + i := by omega
    have vb : (-2147483648 : Int) ≤ M0.1 s (r + i) ∧ M0.1 s (r + i) ≤ 2147483647 := by
      rw [← h1 (r + i) (by omega) (by omega) (by omega)]
      have := hI.1 s (r + i)
      rw [gs] at this
      rw [show ab_rg (51100, 537).1 (r + i) = ab_ii from ab_s_b _ (by omega) (by omega)] at this
      exact this
    refine w_iln rfl ?_
    refine w_bp ?_
    refine w_cmge (fun c => by exfalso; omega) (fun c => ?_)
    refine w_aln rfl ?_
    refine w_gr gm rfl (by decide) rfl (by rw [h2]; exact m46) ?_
    refine w_iln rfl ?_
    refine w_aln rfl ?_
    refine w_iln rfl ?_
    refine w_iln rfl ?_
    refine w_cv (st := [.inl (i : Int), .inr (.inr (some bk))]) rfl gm rfl (Nat.le_of_ble_eq_true rfl) (fun kk h => h) ⟨Nat.le_of_ble_eq_true rfl, ?_⟩
    show wz 38 mt_X12_bidOf.2.2.2.2.1 _ mt_X12_bidOf.2.2.2.2.1 [some (.inr (.inr (some m))), some (.inl k), some (.inl (i : Int))] [] _ _ _ _
    refine w_aln rfl ?_
    refine w_gr gm rfl (by decide) rfl (by rw [h2]; exact m6) ?_
    refine w_bp ?_
    refine w_bp ?_
    refine w_iln rfl ?_
    refine w_mul ⟨by omega, by omega⟩ ?_
    refine w_add ⟨by omega, by omega⟩ ?_
    refine w_iln rfl ?_
    refine w_add ⟨by omega, by omega⟩ ?_
    refine w_iald (v := M0.1 s (r + i)) gs rfl (by omega) (by show (88 : Int) + 12 * k + (i : Int) < ((537 : Nat) : Int); omega) (by rw [tr]; exact h1 _ (by omega) (by omega) (by omega)) ?_
    refine w_iret (fun q => by cases q) ?_
    refine w_iast gb rfl (by decide) (by omega) (by show (i : Int) < ((12 : Nat) : Int); omega) ?_
    refine w_aln rfl ?_
    refine w_gr gm rfl (by decide) rfl (by show M.2.2 m 6 = _; rw [h2]; exact m6) ?_
    refine w_bp ?_
    refine w_bp ?_
    refine w_iln rfl ?_
    refine w_mul ⟨by omega, by omega⟩ ?_
    refine w_add ⟨by omega, by omega⟩ ?_
    refine w_iln rfl ?_
    refine w_add ⟨by omega, by omega⟩ ?_
    refine w_ic ?_
    refine w_iast gs rfl (by decide) (by omega) (by show (88 : Int) + 12 * k + (i : Int) < ((537 : Nat) : Int); omega) ?_
    refine w_ii rfl ⟨by omega, by omega⟩ ?_
    refine w_goto ?_
    rw [ti, tr]
    refine ih (i + 1) _ _ _ (by omega) ((hI.p0 ?_).p0 ?_) h2 (fun j j1 j2 j3 => (hn_n (Or.inr (by omega))).trans ((hn_n (Or.inl (Ne.symm bs))).trans (h1 j j1 j2 (by omega)))) (fun l hl => (hn_n (Or.inl bs)).trans ?_) h
    · rw [gb]; exact vb
    · rw [gs, show ab_rg (51100, 537).1 (r + i) = ab_ii from ab_s_b _ (by omega) (by omega)]; exact ⟨by decide, by decide⟩
    · rcases Nat.lt_or_ge l i with q | q
      · exact (hn_n (Or.inr (by omega))).trans (h3 l q)
      · rw [show l = i by omega]; exact hn_s
theorem r_wo2 {G : mj_G} {M0 : mj_M} {m s bk r : Nat} {Q : mj_P} {k v2 v3 : Int} {H : Nat → Int} (gm : G m = (1012, 0)) (gs : G s = (51100, 537)) (gb : G bk = (65100, 12)) (m6 : M0.2.2 m 6 = some s) (m46 : M0.2.2 m 46 = some bk) (hb : ∀ l, l < 12 → M0.1 bk l = H (r + l)) (k1 : 0 ≤ k) (k2 : k < 8) (hr : r = (88 + 12 * k).toNat) : ∀ (f i : Nat) (M : mj_M) (cb sb : Nat), i + f = 12 → ab_Inv G M → M.2 = M0.2 → M.1 bk = M0.1 bk → (∀ j, 88 ≤ j → j < 184 → ¬ (r + i ≤ j ∧ j < r + 12) → M.1 s j = H j) → (∀ M' cb sb, ab_Inv G M' → M'.2 = M0.2 → (∀ j, 88 ≤ j → j < 184 → M'.1 s j = H j) → wz 39 mt_X12_worth.2.2.2.2.1 Q (mt_X12_worth.2.2.2.2.1.drop 74) [some (.inr (.inr (some m))), some (.inl k), some (.inl v2), some (.inl v3), some (.inl 12)] [] G M' cb sb) → wz 39 mt_X12_worth.2.2.2.2.1 Q (mt_X12_worth.2.2.2.2.1.drop 55) [some (.inr (.inr (some m))), some (.inl k), some (.inl v2), some (.inl v3), some (.inl (i : Int))] [] G M cb sb := by
  have bs : bk ≠ s := hn_ne gb gs (by decide)
  intro f
  induction f with
  | zero =>
    intro i M cb sb e hI h2 h1 h3 h
    have e : i = 12 := by omega
    subst e
    refine w_il rfl ?_
    refine w_bp ?_
    refine w_cmge (fun c => ?_) (fun c => by exfalso; omega)
    exact h M _ _ hI h2 (fun j a b => h3 j a b (by omega))
  | succ f ih =>
    intro i M cb sb e hI h2 h1 h3 h
    have ti : ((i : Int)).toNat = i := by omega
    have tr : ((88 : Int) + 12 * k + (i : Int)).toNat = r + i := by omega
    have vb : (-2147483648 : Int) ≤ H (r + i) ∧ H (r + i) ≤ 2147483647 := by
      rw [← hb i (by omega), ← h1]
      have := hI.1 bk i
      rw [gb] at this
      exact this
    refine w_il rfl ?_
    refine w_bp ?_
    refine w_cmge (fun c => by exfalso; omega) (fun c => ?_)
    refine w_aln rfl ?_
    refine w_gr gm rfl (by decide) rfl (by rw [h2]; exact m6) ?_
    refine w_bp ?_
    refine w_bp ?_
    refine w_iln rfl ?_
    refine w_mul ⟨by omega, by omega⟩ ?_
    refine w_add ⟨by omega, by omega⟩ ?_
    refine w_il rfl ?_
    refine w_add ⟨by omega, by omega⟩ ?_
    refine w_aln rfl ?_
    refine w_gr gm rfl (by decide) rfl (by rw [h2]; exact m46) ?_
    refine w_il rfl ?_
    refine w_iald (v := H (r + i)) gb rfl (by omega) (by show (i : Int) < ((12 : Nat) : Int); omega) (by rw [ti, h1]; exact hb i (by omega)) ?_
    refine w_iast gs rfl (by decide) (by omega) (by show (88 : Int) + 12 * k + (i : Int) < ((537 : Nat) : Int); omega) ?_
    refine w_ii rfl ⟨by omega, by omega⟩ ?_
    refine w_goto ?_
    rw [tr]
    refine ih (i + 1) _ _ _ (by omega) (hI.p0 ?_) h2 ((wz_c bs).trans h1) (fun j j1 j2 j3 => ?_) h
    · rw [gs, show ab_rg (51100, 537).1 (r + i) = ab_ii from ab_s_b _ (by omega) (by omega)]; exact vb
    · by_cases q : j = r + i
      · rw [q]; exact hn_s
      · exact (hn_n (Or.inr q)).trans (h3 j j1 j2 (by omega))
set_option maxRecDepth 100000 in
theorem r_X12_worth5 {G : mj_G} {M : mj_M} {m s : Nat} {Q : mj_P} {z1 : Int} (hI : ab_Inv G M) (gm : G m = (1012, 0)) (gs : G s = (51100, 537)) (m6 : M.2.2 m 6 = some s) (b0 : 0 ≤ M.1 s 0 ∧ M.1 s 0 ≤ 8) (h : ∀ z M', (∀ j, 88 ≤ j → j < 184 → M'.1 s j = M.1 s j) → Q (some (.inl z)) G M') : mj_R mj_tab 40 259 [.inr (.inr (some m)), .inl z1] G M Q := by
  obtain ⟨bk, m46, gb⟩ := hn_rf (k := 46) (q := (65100, 12)) hI gm rfl (by decide) (by decide) (by decide) (fun e => absurd e (by decide))
  have sm : s ≠ m := hn_ne gs gm (by decide)
  have es : (mj_p0 M m 0 0).1 s = M.1 s := wz_c sm
  have hI1 : ab_Inv G (mj_p0 M m 0 0) := hI.p0 (by rw [gm]; exact ⟨by decide, by decide⟩)
  refine ⟨Nat.le_of_ble_eq_true rfl, ?_⟩
  show wz 39 mt_X12_worth.2.2.2.2.1 Q mt_X12_worth.2.2.2.2.1 [some (.inr (.inr (some m))), some (.inl z1), none, none, none] [] G M _ _
  refine w_aln rfl ?_
  refine w_ic ?_
  refine w_pi gm rfl (by decide) rfl (fun q => by cases q) ?_
  refine w_aln rfl ?_
  refine w_iln rfl ?_
  refine w_cv (st := []) rfl gm rfl (Nat.le_of_ble_eq_true rfl) (fun kk h => h) ⟨Nat.le_of_ble_eq_true rfl, ?_⟩
  show wz (38) mt_X12_isTown.2.2.2.2.1 _ mt_X12_isTown.2.2.2.2.1 [some (.inr (.inr (some m))), some (.inl z1)] [] _ _ _ _
  refine w_iln rfl ?_
  refine w_ic ?_
  refine w_aln rfl ?_
  refine w_gr gm rfl (by decide) rfl (m6) ?_
  refine w_ic ?_
  refine w_iald (v := (M.1 s 0)) gs rfl (by show (0 : Int) ≤ 0; omega) (by show 0 < ((537 : Nat) : Int); omega) ((hn_n (Or.inl (hn_ne gs gm (by decide)))).trans (congrArg (M.1 s) (by show (0 : Int).toNat = 0; omega))) ?_
  refine w_ic ?_
  refine w_sub ⟨by show (-2147483648 : Int) ≤ (M.1 s 0) - 1; omega, by show (M.1 s 0) - 1 < (2147483648 : Int); omega⟩ ?_
  refine w_cs (st := []) rfl (Nat.le_of_ble_eq_true rfl) (fun kk h => h) ⟨Nat.le_of_ble_eq_true rfl, ?_⟩
  show wz (37) mt_X12_isIn.2.2.2.2.1 _ mt_X12_isIn.2.2.2.2.1 [some (.inl z1), some (.inl 0), some (.inl ((M.1 s 0) - 1))] [] _ _ _ _
  refine w_iln rfl ?_
  refine w_iln rfl ?_
  refine w_cmlt (fun c1 => ?_) (fun c1 => ?_)
  · skip
    refine w_ic ?_
    refine w_iret (fun _ => Or.inl rfl) ?_
    refine w_iret (fun _ => Or.inl rfl) ?_
    refine w_ifne (fun c2 => ?_) (fun c2 => ?_)
    · exfalso; omega
    · skip
      refine w_sp ?_
      exact w_iret (fun q => by cases q) (h _ _ (fun j _ _ => by rw [es]))
  · skip
    refine w_iln rfl ?_
    refine w_iln rfl ?_
    refine w_cmgt (fun c3 => ?_) (fun c3 => ?_)
    · skip
      refine w_ic ?_
      refine w_iret (fun _ => Or.inl rfl) ?_
      refine w_iret (fun _ => Or.inl rfl) ?_
      refine w_ifne (fun c4 => ?_) (fun c4 => ?_)
      · exfalso; omega
      · skip
        refine w_sp ?_
        exact w_iret (fun q => by cases q) (h _ _ (fun j _ _ => by rw [es]))
    · skip
      refine w_ic ?_
      refine w_goto ?_
      refine w_iret (fun _ => Or.inr rfl) ?_
      refine w_iret (fun _ => Or.inr rfl) ?_
      refine w_ifne (fun c5 => ?_) (fun c5 => ?_)
      · skip
        refine w_aln rfl ?_
        refine w_cv (st := []) rfl gm rfl (Nat.le_of_ble_eq_true rfl) (fun kk h => h) (r_thinks (dd := 38) (by decide +kernel) hI1 gm (fun M2 I2 f2 => ?_))
        refine w_aln rfl ?_
        refine w_ic ?_
        refine w_cv (st := []) rfl gm rfl (Nat.le_of_ble_eq_true rfl) (fun kk h => h) (r_wholeYear (dd := 38) (by decide +kernel) I2 gm ⟨by decide, by decide⟩ (fun M3 I3 f3 => ?_))
        have e36 : M3.2.2 m 6 = some s := (hn_rr gm f3 (by decide +kernel)).trans ((hn_rr gm f2 (by decide +kernel)).trans m6)
        have e346 : M3.2.2 m 46 = some bk := (hn_rr gm f3 (by decide +kernel)).trans ((hn_rr gm f2 (by decide +kernel)).trans m46)
        have k3 : lq_ke s 0 0 M M3 := lq_ke.fr gs (lq_ke.fr gs (fun j _ _ _ => by rw [es]) f2 (by decide +kernel)) f3 (by decide +kernel)
        refine w_aln rfl ?_
        refine w_gr gm rfl (by decide) rfl e36 ?_
        refine w_sp ?_
        refine w_iald (v := M3.1 s 224) gs rfl (by decide) (by decide) rfl ?_
        refine w_isn ?_
        refine w_ic ?_
        refine w_isn ?_
        refine r_wo1 (M0 := M3) (r := (88 + 12 * z1).toNat) gm gs gb e36 e346 (by omega) (by omega) rfl 12 0 M3 _ _ (by decide) I3 rfl (fun _ _ _ _ => rfl) (fun l hl => absurd hl (Nat.not_lt_zero l)) (fun M4 cb sb I4 g2 g1 g3 => ?_)
        refine w_aln rfl ?_
        refine w_ic ?_
        refine w_cv (st := []) rfl gm rfl (Nat.le_of_ble_eq_true rfl) (fun kk h => h) (r_wholeYear (dd := 38) (by decide +kernel) I4 gm ⟨by decide, by decide⟩ (fun M5 I5 f5 => ?_))
        have e56 : M5.2.2 m 6 = some s := (hn_rr gm f5 (by decide +kernel)).trans (by rw [g2]; exact e36)
        have e546 : M5.2.2 m 46 = some bk := (hn_rr gm f5 (by decide +kernel)).trans (by rw [g2]; exact e346)
        have k5 : lq_ke s (88 + 12 * z1).toNat ((88 + 12 * z1).toNat + 12) M3 M5 := lq_ke.fr gs g1 f5 (by decide +kernel)
        have b5 : ∀ l, l < 12 → M5.1 bk l = M.1 s ((88 + 12 * z1).toNat + l) := fun l hl => (f5 bk l (by rw [gb]; exact hn_nt (by decide +kernel))).1.trans ((g3 l hl).trans (k3 _ (by omega) (by omega) (by omega)))
        refine w_aln rfl ?_
        refine w_gr gm rfl (by decide) rfl e56 ?_
        refine w_sp ?_
        refine w_iald (v := M5.1 s 224) gs rfl (by decide) (by decide) rfl ?_
        refine w_isn ?_
        refine w_ic ?_
        refine w_is ?_
        refine r_wo2 (M0 := M5) (H := M.1 s) (r := (88 + 12 * z1).toNat) gm gs gb e56 e546 b5 (by omega) (by omega) rfl 12 0 M5 _ _ (by decide) I5 rfl rfl (fun j j1 j2 j3 => (k5 j j1 j2 (by omega)).trans (k3 j j1 j2 (by omega))) (fun M6 cb sb I6 q2 q1 => ?_)
        refine w_aln rfl ?_
        refine w_cv (st := []) rfl gm rfl (Nat.le_of_ble_eq_true rfl) (fun kk h => h) (r_forgets (dd := 38) (by decide +kernel) I6 gm (fun M7 I7 f7 => ?_))
        refine w_iln rfl ?_
        refine w_iln rfl ?_
        refine w_subw ?_
        intro z hz ez
        exact w_iret (fun q => by cases q) (h z M7 (fun j j1 j2 => ((lq_ke.fr gs (fun _ _ _ _ => rfl : lq_ke s 0 0 M6 M6) f7 (by decide +kernel)) j j1 j2 (by omega)).trans (q1 j j1 j2)))
      · exfalso; omega
/-- bids of s are H's, but the r-th; s is where it was -/
def lq_mu (G : mj_G) (m s r : Nat) (H : Nat → Int) (M : mj_M) : Prop := ab_Inv G M ∧ M.2.2 m 6 = some s ∧ ∀ j, 88 ≤ j → j < 184 → j ≠ r → M.1 s j = H j
theorem lq_mu.fr {G : mj_G} {m s r : Nat} {H : Nat → Int} {M M' : mj_M} {W : List (Nat × Nat × Nat)} (gm : G m = (1012, 0)) (gs : G s = (51100, 537)) (h : lq_mu G m s r H M) (I : ab_Inv G M') (f : ab_frm W G M M') (c : ∀ q ∈ W, ¬ (q.1 = 51100 ∧ q.2.1 < 184)) (c2 : ∀ q ∈ W, ¬ (q.1 = 1012 ∧ q.2.1 ≤ 6 ∧ 6 ≤ q.2.2)) : lq_mu G m s r H M' := ⟨I, (hn_rr gm f c2).trans h.2.1, fun j j1 j2 j3 => (f s j (by
  rw [gs]; rintro ⟨q, hq, e1, e2, e3⟩; exact c q hq ⟨e1, by omega⟩)).1.trans (h.2.2 j j1 j2 j3)⟩
theorem r_mu1 {G : mj_G} {m s r : Nat} {Q : mj_P} {k o wa : Int} {H : Nat → Int} (gm : G m = (1012, 0)) (gs : G s = (51100, 537)) (k1 : 0 ≤ k) (k2 : k < 8) (o1 : 0 ≤ o) (o2 : o < 12) (hr : r = (88 + 12 * k + o).toNat) {g n : Int} : ∀ (f i : Nat) (M : mj_M) (cb sb : Nat), (i : Int) + f = o + 1 → M.1 s 222 = (i : Int) → lq_mu G m s r H M → (∀ M' v6 cb sb, lq_mu G m s r H M' → wz 39 mt_X12_must.2.2.2.2.1 Q (mt_X12_must.2.2.2.2.1.drop 51) [some (.inr (.inr (some m))), some (.inl k), some (.inl o), some (.inl wa), some (.inl g), some (.inl n), v6] [] G M' cb sb) → wz 39 mt_X12_must.2.2.2.2.1 Q (mt_X12_must.2.2.2.2.1.drop 43) [some (.inr (.inr (some m))), some (.inl k), some (.inl o), some (.inl wa), some (.inl g), some (.inl n), some (.inl (i : Int))] [] G M cb sb := by
  intro f
  induction f with
  | zero =>
    intro i M cb sb e e2 h1 h
    refine w_il rfl ?_
    refine w_iln rfl ?_
    refine w_cmgt (fun c => ?_) (fun c => by exfalso; omega)
    exact h M _ _ _ h1
  | succ f ih =>
    intro i M cb sb e e2 h1 h
    refine w_il rfl ?_
    refine w_iln rfl ?_
    refine w_cmgt (fun c => by exfalso; omega) (fun c => ?_)
    refine w_aln rfl ?_
    refine w_ic ?_
    refine w_cv (st := []) rfl gm rfl (Nat.le_of_ble_eq_true rfl) (fun kk h => h) (r_month5 (dd := 38) (by decide +kernel) h1.1 gm gs h1.2.1 ⟨by decide, by decide⟩ (by omega) (fun M1 I1 f1 g1 => ?_))
    refine w_ii rfl ⟨by omega, by omega⟩ ?_
    refine w_goto ?_
    exact ih (i + 1) M1 _ _ (by omega) (by omega) (h1.fr gm gs I1 f1 (by decide +kernel) (by decide +kernel)) h
theorem r_mu2 {G : mj_G} {m s r : Nat} {Q : mj_P} {k o wa : Int} {H : Nat → Int} (gm : G m = (1012, 0)) (gs : G s = (51100, 537)) (k1 : 0 ≤ k) (k2 : k < 8) (o1 : 0 ≤ o) (o2 : o < 12) (hr : r = (88 + 12 * k + o).toNat) (hw : wa = H r) (wb : (-2147483648 : Int) ≤ wa ∧ wa ≤ 2147483647) (hQ : ∀ z M', (∀ j, 88 ≤ j → j < 184 → M'.1 s j = H j) → Q (some (.inl z)) G M') : ∀ (f : Nat) (n g : Int) (M : mj_M) (v6 : Option mj_V) (cb sb : Nat), n + f = 1000 → 1 ≤ n → lq_mu G m s r H M → wz 39 mt_X12_must.2.2.2.2.1 Q (mt_X12_must.2.2.2.2.1.drop 23) [some (.inr (.inr (some m))), some (.inl k), some (.inl o), some (.inl wa), some (.inl g), some (.inl n), v6] [] G M cb sb := by
  have tr : ((88 : Int) + 12 * k + o).toNat = r := by omega
  have fin : ∀ (n g : Int) (M : mj_M) (v6 : Option mj_V) (cb sb : Nat), lq_mu G m s r H M → wz 39 mt_X12_must.2.2.2.2.1 Q (mt_X12_must.2.2.2.2.1.drop 76) [some (.inr (.inr (some m))), some (.inl k), some (.inl o), some (.inl wa), some (.inl g), some (.inl n), v6] [] G M cb sb := by
    intro n g M v6 cb sb h1
    refine w_aln rfl ?_
    refine w_gr gm rfl (by decide) rfl h1.2.1 ?_
    refine w_bp ?_
    refine w_bp ?_
    refine w_iln rfl ?_
    refine w_mul ⟨by omega, by omega⟩ ?_
    refine w_add ⟨by omega, by omega⟩ ?_
    refine w_iln rfl ?_
    refine w_add ⟨by omega, by omega⟩ ?_
    refine w_iln rfl ?_
    refine w_iast gs rfl (by decide) (by omega) (by show (88 : Int) + 12 * k + o < ((537 : Nat) : Int); omega) ?_
    rw [tr]
    refine w_aln rfl ?_
    refine w_cv (st := []) rfl gm rfl (Nat.le_of_ble_eq_true rfl) (fun kk h => h) (r_forgets (dd := 38) (by decide +kernel) (h1.1.p0 (by rw [gs, show ab_rg (51100, 537).1 r = ab_ii from ab_s_b _ (by omega) (by omega)]; exact wb)) gm (fun M1 I1 f1 => ?_))
    refine w_il rfl ?_
    refine w_iret (fun q => by cases q) (hQ g M1 (fun j j1 j2 => (f1 s j (by
      rw [gs]; rintro ⟨q, hq, e1, e2, e3⟩; exact (by decide +kernel : ∀ q ∈ ab_w cd_22, ¬ (q.1 = 51100 ∧ q.2.1 < 184)) q hq ⟨e1, by omega⟩)).1.trans ?_))
    by_cases e : j = r
    · rw [e]; exact hn_s.trans hw
    · exact (hn_n (Or.inr e)).trans (h1.2.2 j j1 j2 e)
  intro f
  induction f with
  | zero =>
    intro n g M v6 cb sb e n1 h1
    refine w_il rfl ?_
    refine w_sp ?_
    refine w_cmge (fun c => ?_) (fun c => by exfalso; omega)
    exact fin n g M v6 _ _ h1
  | succ f ih =>
    intro n g M v6 cb sb e n1 h1
    refine w_il rfl ?_
    refine w_sp ?_
    refine w_cmge (fun c => by exfalso; omega) (fun c => ?_)
    refine w_il rfl ?_
    refine w_ifge (fun c2 => ?_) (fun c2 => ?_)
    · exact fin n g M v6 _ _ h1
    refine w_aln rfl ?_
    refine w_gr gm rfl (by decide) rfl h1.2.1 ?_
    refine w_bp ?_
    refine w_bp ?_
    refine w_iln rfl ?_
    refine w_mul ⟨by omega, by omega⟩ ?_
    refine w_add ⟨by omega, by omega⟩ ?_
    refine w_iln rfl ?_
    refine w_add ⟨by omega, by omega⟩ ?_
    refine w_il rfl ?_
    refine w_iast gs rfl (by decide) (by omega) (by show (88 : Int) + 12 * k + o < ((537 : Nat) : Int); omega) ?_
    rw [tr]
    refine w_aln rfl ?_
    refine w_cv (st := []) rfl gm rfl (Nat.le_of_ble_eq_true rfl) (fun kk h => h) (r_begins5 (dd := 38) (by decide +kernel) (h1.1.p0 (by rw [gs, show ab_rg (51100, 537).1 r = ab_ii from ab_s_b _ (by omega) (by omega)]; exact ⟨by show (-2147483648 : Int) ≤ n; omega, by show n ≤ (2147483647 : Int); omega⟩)) gm gs h1.2.1 (fun M1 I1 f1 g1 => ?_))
    have h2 : lq_mu G m s r H M1 := lq_mu.fr (M := mj_p0 M s r n) gm gs ⟨h1.1.p0 (by rw [gs, show ab_rg (51100, 537).1 r = ab_ii from ab_s_b _ (by omega) (by omega)]; exact ⟨by show (-2147483648 : Int) ≤ n; omega, by show n ≤ (2147483647 : Int); omega⟩), h1.2.1, fun j j1 j2 j3 => (hn_n (Or.inr j3)).trans (h1.2.2 j j1 j2 j3)⟩ I1 f1 (by decide +kernel) (by decide +kernel)
    refine w_ic ?_
    refine w_is ?_
    refine r_mu1 gm gs k1 k2 o1 o2 hr (o + 1).toNat 0 M1 _ _ (by omega) g1 h2 (fun M2 v6 cb sb h3 => ?_)
    have ta : ((320 : Int) + 3 * o).toNat = (320 + 3 * o).toNat := rfl
    refine w_aln rfl ?_
    refine w_gr gm rfl (by decide) rfl h3.2.1 ?_
    refine w_sp ?_
    refine w_ic ?_
    refine w_iln rfl ?_
    refine w_mul ⟨by omega, by omega⟩ ?_
    refine w_add ⟨by omega, by omega⟩ ?_
    refine w_iald (v := M2.1 s ((320 : Int) + 3 * o).toNat) gs rfl (by omega) (by show (320 : Int) + 3 * o < ((537 : Nat) : Int); omega) rfl ?_
    refine w_iln rfl ?_
    refine w_cmne (fun c3 => ?_) (fun c3 => ?_)
    · refine w_ii rfl ⟨by omega, by omega⟩ ?_
      refine w_goto ?_
      exact ih (n + 1) g M2 _ _ _ (by omega) (by omega) h3
    · refine w_aln rfl ?_
      refine w_gr gm rfl (by decide) rfl h3.2.1 ?_
      refine w_sp ?_
      refine w_ic ?_
      refine w_iln rfl ?_
      refine w_mul ⟨by omega, by omega⟩ ?_
      refine w_add ⟨by omega, by omega⟩ ?_
      refine w_ic ?_
      refine w_add ⟨by omega, by omega⟩ ?_
      refine w_iald (v := M2.1 s ((320 : Int) + 3 * o + 1).toNat) gs rfl (by omega) (by show (320 : Int) + 3 * o + 1 < ((537 : Nat) : Int); omega) rfl ?_
      refine w_ifge (fun c4 => ?_) (fun c4 => ?_)
      · refine w_ii rfl ⟨by omega, by omega⟩ ?_
        refine w_goto ?_
        exact ih (n + 1) g M2 _ _ _ (by omega) (by omega) h3
      · refine w_il rfl ?_
        refine w_is ?_
        refine w_ii rfl ⟨by omega, by omega⟩ ?_
        refine w_goto ?_
        exact ih (n + 1) n M2 _ _ _ (by omega) (by omega) h3
set_option maxRecDepth 100000 in
theorem r_X12_must5 {G : mj_G} {M : mj_M} {m s : Nat} {Q : mj_P} {z1 z2 : Int} (hI : ab_Inv G M) (gm : G m = (1012, 0)) (gs : G s = (51100, 537)) (m6 : M.2.2 m 6 = some s) (b0 : 0 ≤ M.1 s 0 ∧ M.1 s 0 ≤ 8) (h : ∀ z M', (∀ j, 88 ≤ j → j < 184 → M'.1 s j = M.1 s j) → Q (some (.inl z)) G M') : mj_R mj_tab 40 215 [.inr (.inr (some m)), .inl z1, .inl z2] G M Q := by
  have sm : s ≠ m := hn_ne gs gm (by decide)
  have es : (mj_p0 M m 0 0).1 s = M.1 s := wz_c sm
  have hI1 : ab_Inv G (mj_p0 M m 0 0) := hI.p0 (by rw [gm]; exact ⟨by decide, by decide⟩)
  refine ⟨Nat.le_of_ble_eq_true rfl, ?_⟩
  show wz 39 mt_X12_must.2.2.2.2.1 Q mt_X12_must.2.2.2.2.1 [some (.inr (.inr (some m))), some (.inl z1), some (.inl z2), none, none, none, none] [] G M _ _
  refine w_aln rfl ?_
  refine w_ic ?_
  refine w_pi gm rfl (by decide) rfl (fun q => by cases q) ?_
  refine w_aln rfl ?_
  refine w_iln rfl ?_
  refine w_cv (st := []) rfl gm rfl (Nat.le_of_ble_eq_true rfl) (fun kk h => h) ⟨Nat.le_of_ble_eq_true rfl, ?_⟩
  show wz (38) mt_X12_isTown.2.2.2.2.1 _ mt_X12_isTown.2.2.2.2.1 [some (.inr (.inr (some m))), some (.inl z1)] [] _ _ _ _
  refine w_iln rfl ?_
  refine w_ic ?_
  refine w_aln rfl ?_
  refine w_gr gm rfl (by decide) rfl (m6) ?_
  refine w_ic ?_
  refine w_iald (v := (M.1 s 0)) gs rfl (by show (0 : Int) ≤ 0; omega) (by show 0 < ((537 : Nat) : Int); omega) ((hn_n (Or.inl (hn_ne gs gm (by decide)))).trans (congrArg (M.1 s) (by show (0 : Int).toNat = 0; omega))) ?_
  refine w_ic ?_
  refine w_sub ⟨by show (-2147483648 : Int) ≤ (M.1 s 0) - 1; omega, by show (M.1 s 0) - 1 < (2147483648 : Int); omega⟩ ?_
  refine w_cs (st := []) rfl (Nat.le_of_ble_eq_true rfl) (fun kk h => h) ⟨Nat.le_of_ble_eq_true rfl, ?_⟩
  show wz (37) mt_X12_isIn.2.2.2.2.1 _ mt_X12_isIn.2.2.2.2.1 [some (.inl z1), some (.inl 0), some (.inl ((M.1 s 0) - 1))] [] _ _ _ _
  refine w_iln rfl ?_
  refine w_iln rfl ?_
  refine w_cmlt (fun c1 => ?_) (fun c1 => ?_)
  · skip
    refine w_ic ?_
    refine w_iret (fun _ => Or.inl rfl) ?_
    refine w_iret (fun _ => Or.inl rfl) ?_
    refine w_ifeq (fun c2 => ?_) (fun c2 => ?_)
    · skip
      refine w_ic ?_
      exact w_iret (fun q => by cases q) (h _ _ (fun j _ _ => by rw [es]))
    · exfalso; omega
  · skip
    refine w_iln rfl ?_
    refine w_iln rfl ?_
    refine w_cmgt (fun c3 => ?_) (fun c3 => ?_)
    · skip
      refine w_ic ?_
      refine w_iret (fun _ => Or.inl rfl) ?_
      refine w_iret (fun _ => Or.inl rfl) ?_
      refine w_ifeq (fun c4 => ?_) (fun c4 => ?_)
      · skip
        refine w_ic ?_
        exact w_iret (fun q => by cases q) (h _ _ (fun j _ _ => by rw [es]))
      · exfalso; omega
    · skip
      refine w_ic ?_
      refine w_goto ?_
      refine w_iret (fun _ => Or.inr rfl) ?_
      refine w_iret (fun _ => Or.inr rfl) ?_
      refine w_ifeq (fun c5 => ?_) (fun c5 => ?_)
      · exfalso; omega
      · skip
        refine w_iln rfl ?_
        refine w_cs (st := []) rfl (Nat.le_of_ble_eq_true rfl) (fun kk h => h) ⟨Nat.le_of_ble_eq_true rfl, ?_⟩
        show wz (38) mt_X12_isMonth.2.2.2.2.1 _ mt_X12_isMonth.2.2.2.2.1 [some (.inl z2)] [] _ _ _ _
        refine w_iln rfl ?_
        refine w_ic ?_
        refine w_bp ?_
        refine w_cs (st := []) rfl (Nat.le_of_ble_eq_true rfl) (fun kk h => h) ⟨Nat.le_of_ble_eq_true rfl, ?_⟩
        show wz (37) mt_X12_isIn.2.2.2.2.1 _ mt_X12_isIn.2.2.2.2.1 [some (.inl z2), some (.inl 0), some (.inl 11)] [] _ _ _ _
        refine w_iln rfl ?_
        refine w_iln rfl ?_
        refine w_cmlt (fun c6 => ?_) (fun c6 => ?_)
        · skip
          refine w_ic ?_
          refine w_iret (fun _ => Or.inl rfl) ?_
          refine w_iret (fun _ => Or.inl rfl) ?_
          refine w_ifne (fun c7 => ?_) (fun c7 => ?_)
          · exfalso; omega
          · skip
            refine w_ic ?_
            exact w_iret (fun q => by cases q) (h _ _ (fun j _ _ => by rw [es]))
        · skip
          refine w_iln rfl ?_
          refine w_iln rfl ?_
          refine w_cmgt (fun c8 => ?_) (fun c8 => ?_)
          · skip
            refine w_ic ?_
            refine w_iret (fun _ => Or.inl rfl) ?_
            refine w_iret (fun _ => Or.inl rfl) ?_
            refine w_ifne (fun c9 => ?_) (fun c9 => ?_)
            · exfalso; omega
            · skip
              refine w_ic ?_
              exact w_iret (fun q => by cases q) (h _ _ (fun j _ _ => by rw [es]))
          · skip
            refine w_ic ?_
            refine w_goto ?_
            refine w_iret (fun _ => Or.inr rfl) ?_
            refine w_iret (fun _ => Or.inr rfl) ?_
            refine w_ifne (fun c10 => ?_) (fun c10 => ?_)
            · skip
              refine w_aln rfl ?_
              refine w_cv (st := []) rfl gm rfl (Nat.le_of_ble_eq_true rfl) (fun kk h => h) (r_thinks (dd := 38) (by decide +kernel) hI1 gm (fun M2 I2 f2 => ?_))
              have e26 : M2.2.2 m 6 = some s := (hn_rr gm f2 (by decide +kernel)).trans m6
              have k2 : lq_ke s 0 0 M M2 := lq_ke.fr gs (fun j _ _ _ => by rw [es]) f2 (by decide +kernel)
              have tr : ((88 : Int) + 12 * z1 + z2).toNat = (88 + 12 * z1 + z2).toNat := rfl
              refine w_aln rfl ?_
              refine w_iln rfl ?_
              refine w_iln rfl ?_
              refine w_cv (st := []) rfl gm rfl (Nat.le_of_ble_eq_true rfl) (fun kk h => h) ⟨Nat.le_of_ble_eq_true rfl, ?_⟩
              show wz 38 mt_X12_bidOf.2.2.2.2.1 _ mt_X12_bidOf.2.2.2.2.1 [some (.inr (.inr (some m))), some (.inl z1), some (.inl z2)] [] _ _ _ _
              refine w_aln rfl ?_
              refine w_gr gm rfl (by decide) rfl e26 ?_
              refine w_bp ?_
              refine w_bp ?_
              refine w_iln rfl ?_
              refine w_mul ⟨by omega, by omega⟩ ?_
              refine w_add ⟨by omega, by omega⟩ ?_
              refine w_iln rfl ?_
              refine w_add ⟨by omega, by omega⟩ ?_
              refine w_iald (v := M.1 s (88 + 12 * z1 + z2).toNat) gs rfl (by omega) (by show (88 : Int) + 12 * z1 + z2 < ((537 : Nat) : Int); omega) (k2 _ (by omega) (by omega) (by omega)) ?_
              refine w_iret (fun q => by cases q) ?_
              refine w_isn ?_
              refine w_ic ?_
              refine w_is ?_
              refine w_ic ?_
              refine w_is ?_
              have vb : (-2147483648 : Int) ≤ M.1 s (88 + 12 * z1 + z2).toNat ∧ M.1 s (88 + 12 * z1 + z2).toNat ≤ 2147483647 := by
                have := hI.1 s (88 + 12 * z1 + z2).toNat
                rw [gs] at this
                rw [show ab_rg (51100, 537).1 (88 + 12 * z1 + z2).toNat = ab_ii from ab_s_b _ (by omega) (by omega)] at this
                exact this
              exact r_mu2 (H := M.1 s) (r := (88 + 12 * z1 + z2).toNat) gm gs (by omega) (by omega) (by omega) (by omega) rfl rfl vb h 999 1 (-1) M2 none _ _ (by decide) (by decide) ⟨I2, e26, fun j j1 j2 _ => k2 j j1 j2 (by omega)⟩
            · exfalso; omega
end
section
/-! ===== offer, undo, as the invariant sees them ===== -/
def lq_T (M : mj_M) (s kp kr : Nat) : Prop := rv_r6 (M.1 s) 0 ∧ ∀ k, k < 2 → M.1 kr k ≠ 0 → rv_r6 (M.1 kp) (538 * k)
section SB
variable {G : mj_G} {M M' : mj_M} {w : Nat → Nat} {x m s kp kc kr p q R t v : Nat} {n : Int} {H : Nat → Int}
theorem rv_G6.set (h : rv_G6 H 0 w p M) (hA : lq_A G w) (hp : p ∈ lq_Ps) (ht : t < 8) (hv : v < 12) (sb : lq_sb w p t v n M M') : rv_G6 (rv_up H (88 + 12 * t + v) n) 0 w p M' := by
  obtain ⟨⟨h1, h2, h3, h4, h5, h6⟩, h7, h8⟩ := h
  obtain ⟨-, s2, s3, s4, s5⟩ := sb
  obtain ⟨g1, -, -, -, g5, g6, g7⟩ := hA.2.1 p hp
  have hP := lq_P4 hp
  have up : ∀ k, k ≠ 88 + 12 * t + v → rv_up H (88 + 12 * t + v) n k = H k := fun k hk => rv_up_n hk
  have H7 : H (88 + 12 * t + v) = M.1 (w (p + 12 + t)) v := by have := h7 t v ht hv; rw [Nat.zero_add] at this; exact this
  refine ⟨⟨(up _ (by omega)).trans (h1.trans (s3 4 (by decide)).symm), (up _ (by omega)).trans (h2.trans (s3 6 (by decide)).symm), (up _ (by omega)).trans (h3.trans (s3 7 (by decide)).symm), (up _ (by omega)).trans (h4.trans (s3 8 (by decide)).symm), fun t' v' ht' hv' => ?_, fun v' hv' => ?_⟩, fun t' v' ht' hv' => ?_, ?_⟩
  · rw [up _ (by omega), s2 _ (hn_ne (g6 t' ht') g1 (by decide)) (hn_ne (g6 t' ht') (g7 t ht) (by decide))]; exact h5 t' v' ht' hv'
  · rw [up _ (by omega), s2 _ (hn_ne g5 g1 (by decide)) (hn_ne g5 (g7 t ht) (by decide))]; exact h6 v' hv'
  · by_cases e : t' = t
    · subst e
      rw [s5]
      by_cases e2 : v' = v
      · subst e2; rw [Nat.zero_add, rv_up_s, rv_up_s]
      · rw [rv_up_n e2, up _ (by omega)]; exact h7 t' v' ht' hv'
    · rw [up _ (by omega), s2 _ (hn_ne (g7 t' ht') g1 (by decide)) (fun q => by have := hA.1 _ _ (by omega) (by omega) q; omega)]
      exact h7 t' v' ht' hv'
  · rw [s4, h8, ← H7]
    have e1 : lq_ct (fun i => H (0 + (88 + i))) 96 = lq_ct (fun i => H (88 + i)) 96 := lq_ct_cg 96 (fun i _ => by rw [Nat.zero_add])
    have e2 : lq_ct (fun i => rv_up H (88 + 12 * t + v) n (0 + (88 + i))) 96 = lq_ct (fun i => rv_up H (88 + 12 * t + v) n (88 + i)) 96 := lq_ct_cg 96 (fun i _ => by rw [Nat.zero_add])
    rw [e1, e2, lq_ct_s (by omega) (by omega)]
theorem lq_sb.E (sb : lq_sb w p t v n M M') (hA : lq_A G w) (hp : p ∈ lq_Ps) (ht : t < 8) (hR : R ∈ lq_Ps) (hne : R ≠ p) : lq_E6 w R M M' := by
  have h4 := lq_P4 hp
  have h5 := lq_P4 hR
  have key : ∀ u, R ≤ u → u < R + 22 → M'.1 (w u) = M.1 (w u) := fun u h1 h2 => sb.2.1 _ (fun e => by have := hA.1 _ _ (by omega) (by omega) e; omega) (fun e => by have := hA.1 _ _ (by omega) (by omega) e; omega)
  have k0 := key R (by omega) (by omega)
  exact ⟨⟨⟨by rw [k0], by rw [k0], by rw [k0], by rw [k0]⟩, fun t v ht hv => by rw [key (R + 3 + t) (by omega) (by omega)], fun v hv => by rw [key (R + 20) (by omega) (by omega)]⟩, by rw [k0], fun t v ht hv => by rw [key (R + 12 + t) (by omega) (by omega)]⟩
/-- cells of PLAINS are as they were -/
theorem lq_E6.of (hR : R ∈ lq_Ps) (h : ∀ u, R ≤ u → u < R + 22 → M'.1 (w u) = M.1 (w u)) : lq_E6 w R M M' := by
  have k0 := h R (by omega) (by omega)
  exact ⟨⟨⟨by rw [k0], by rw [k0], by rw [k0], by rw [k0]⟩, fun t v ht hv => by rw [h (R + 3 + t) (by omega) (by omega)], fun v hv => by rw [h (R + 20) (by omega) (by omega)]⟩, by rw [k0], fun t v ht hv => by rw [h (R + 12 + t) (by omega) (by omega)]⟩
theorem lq_A.tg (hA : lq_A G w) (hR : R ∈ lq_Ps) : ∀ u, R ≤ u → u < R + 21 → ∃ n, G (w u) = (1004, n) ∨ G (w u) = (24103, n) ∨ G (w u) = (25104, n) ∨ G (w u) = (26100, n) ∨ G (w u) = (27104, n) ∨ G (w u) = (28100, n) ∨ G (w u) = (29100, n) := by
  intro u h1 h2
  obtain ⟨g1, g2, g3, g4, g5, g6, g7⟩ := hA.2.1 R hR
  have : u = R ∨ u = R + 1 ∨ u = R + 2 ∨ (R + 3 ≤ u ∧ u < R + 11) ∨ u = R + 11 ∨ (R + 12 ≤ u ∧ u < R + 20) ∨ u = R + 20 := by omega
  rcases this with rfl | rfl | rfl | h | rfl | h | rfl
  · exact ⟨_, Or.inl g1⟩
  · exact ⟨_, Or.inr (Or.inl g2)⟩
  · exact ⟨_, Or.inr (Or.inr (Or.inl g3))⟩
  · have := g6 (u - R - 3) (by omega)
    rw [show R + 3 + (u - R - 3) = u by omega] at this
    exact ⟨_, Or.inr (Or.inr (Or.inr (Or.inl this)))⟩
  · exact ⟨_, Or.inr (Or.inr (Or.inr (Or.inr (Or.inl g4))))⟩
  · have := g7 (u - R - 12) (by omega)
    rw [show R + 12 + (u - R - 12) = u by omega] at this
    exact ⟨_, Or.inr (Or.inr (Or.inr (Or.inr (Or.inr (Or.inl this)))))⟩
  · exact ⟨_, Or.inr (Or.inr (Or.inr (Or.inr (Or.inr (Or.inr g5)))))⟩
/-- a cell of another sort is none of a PLAIN's -/
theorem lq_A.ne (hA : lq_A G w) (hR : R ∈ lq_Ps) {a t n : Nat} (ga : G a = (t, n)) (h1 : t ≠ 1004) (h2 : t ≠ 24103) (h3 : t ≠ 25104) (h4 : t ≠ 26100) (h5 : t ≠ 27104) (h6 : t ≠ 28100) (h7 : t ≠ 29100) : ∀ u, R ≤ u → u < R + 21 → w u ≠ a := by
  intro u a1 a2 e
  obtain ⟨k, h⟩ := hA.tg hR u a1 a2
  rw [e, ga] at h
  rcases h with h | h | h | h | h | h | h
  all_goals
    have := congrArg Prod.fst h
    omega
/-- cells but those of some sorts are as they were: so is every PLAIN -/
theorem lq_E6.by (hA : lq_A G w) (hR : R ∈ lq_Ps) (h : ∀ u, R ≤ u → u < R + 21 → M'.1 (w u) = M.1 (w u)) : lq_E6 w R M M' := by
  have k0 := h R (by omega) (by omega)
  exact ⟨⟨⟨by rw [k0], by rw [k0], by rw [k0], by rw [k0]⟩, fun t v ht hv => by rw [h (R + 3 + t) (by omega) (by omega)], fun v hv => by rw [h (R + 20) (by omega) (by omega)]⟩, by rw [k0], fun t v ht hv => by rw [h (R + 12 + t) (by omega) (by omega)]⟩
theorem lq_J.of (hJ : lq_J G M x s kp kc w) (e2 : M'.2.2 = M.2.2) (ek : M'.1 kp = M.1 kp) (ec : M'.1 kc = M.1 kc) (H1 : ∀ p q, lq_N M w p q → rv_G6 (M.1 s) 0 w p M → rv_G6 (M'.1 s) 0 w p M') (H2 : ∀ p q, lq_N M w p q → ∀ k, k < 2 → lq_E6 w (lq_ip k) M M') : lq_J G M' x s kp kc w := by
  obtain ⟨hA, hB, p, q, hN, h1, h2⟩ := hJ
  refine ⟨hA, by unfold lq_B; rw [e2]; exact hB, p, q, by unfold lq_N; rw [e2]; exact hN, H1 p q hN h1, fun k hk h0 => ?_⟩
  rw [ec] at h0; rw [ek]
  exact (h2 k hk h0).cg (H2 p q hN k hk) (fun _ _ => rfl)
end SB
/-! what the undone are behind an offer -/
theorem lq_Uz.off {U U' H : Nat → Int} {z z' h j : Nat} {k o n : Int} (hU : lq_Uz U H z) (hz : lq_zs z z' h) (r6 : rv_r6 H 0) (ok : lq_ok H k o n) (hj : j = (12 * k + o + 88).toNat) (u1 : ∀ i, i < 3 * z' → U' i = U (i + 3 * h)) (u2 : U' (3 * z') = k) (u3 : U' (3 * z' + 1) = o) (u4 : U' (3 * z' + 2) = H j) : lq_Uz U' (rv_up H j n) (z' + 1) ∧ lq_ct (fun i => rv_up H j n (88 + i)) 96 ≤ 40 := by
  obtain ⟨q1, q2, q3⟩ := hU
  obtain ⟨⟨k1, k2⟩, ⟨o1, o2⟩, ⟨n1, n2⟩, hc⟩ := ok
  have b8 := r6.1.1.2
  have b6 := r6.2.1 k.toNat o.toNat (by omega) (by omega)
  rw [show 0 + (88 + 12 * k.toNat + o.toNat) = j by omega] at b6
  have ct := q2.ct
  have hct : lq_ct (fun i => rv_up H j n (88 + i)) 96 ≤ 40 := by
    rw [lq_ct_s (by omega) (by omega)]
    rw [← hj] at hc
    split <;> split <;> omega
  have n0 : rv_up H j n 0 = H 0 := rv_up_n (by omega)
  have hb : ∀ i, i < 96 → rv_up (fun i => rv_up H j n (88 + i)) (12 * k + o).toNat (H j) i = H (88 + i) := by
    intro i hi
    by_cases e : i = (12 * k + o).toNat
    · rw [e, rv_up_s]; congr 1; omega
    · rw [rv_up_n e]; exact rv_up_n (by omega)
  have hs : lq_hs U' z' (fun i => H (88 + i)) := by
    rcases hz with ⟨z1, rfl, rfl⟩ | ⟨rfl, rfl, rfl⟩
    · exact q2.cg (fun i hi => (u1 i hi).trans (by rw [Nat.mul_zero, Nat.add_zero])) (fun _ _ => rfl)
    · exact (lq_hs.sh q2).cg (fun i hi => u1 i hi) (fun _ _ => rfl)
  refine ⟨⟨by rcases hz with ⟨z1, rfl, rfl⟩ | ⟨rfl, rfl, rfl⟩ <;> omega, ⟨hct, ?_⟩, fun i hi => ?_⟩, hct⟩
  · rw [u2, u3, u4]
    exact hs.cg (fun _ _ => rfl) hb
  · rw [n0]
    rcases Nat.lt_or_ge i z' with q | q
    · have hi3 : i + h < z := by rcases hz with ⟨z1, rfl, rfl⟩ | ⟨rfl, rfl, rfl⟩ <;> omega
      have := q3 (i + h) hi3
      rw [u1 (3 * i) (by omega), u1 (3 * i + 1) (by omega), u1 (3 * i + 2) (by omega)]
      rw [show 3 * i + 3 * h = 3 * (i + h) by omega, show 3 * i + 1 + 3 * h = 3 * (i + h) + 1 by omega, show 3 * i + 2 + 3 * h = 3 * (i + h) + 2 by omega]
      exact this
    · have e : i = z' := by omega
      subst e
      rw [u2, u3, u4]
      exact ⟨⟨k1, k2⟩, ⟨o1, by omega⟩, b6.1, b6.2.1⟩
theorem lq_Uz.back {U H : Nat → Int} {y j : Nat} (hU : lq_Uz U H (y + 1)) (hj : j = (88 + 12 * U (3 * y) + U (3 * y + 1)).toNat) (b8 : H 0 ≤ 8) : lq_Uz U (rv_up H j (U (3 * y + 2))) y ∧ lq_ct (fun i => rv_up H j (U (3 * y + 2)) (88 + i)) 96 ≤ 40 := by
  obtain ⟨q1, q2, q3⟩ := hU
  have b := q3 y (by omega)
  have n0 : rv_up H j (U (3 * y + 2)) 0 = H 0 := rv_up_n (by omega)
  have hs : lq_hs U y (fun i => rv_up H j (U (3 * y + 2)) (88 + i)) := q2.2.cg (fun _ _ => rfl) (fun i hi => by
    by_cases e : i = (12 * U (3 * y) + U (3 * y + 1)).toNat
    · rw [e, rv_up_s, show 88 + (12 * U (3 * y) + U (3 * y + 1)).toNat = j by omega, rv_up_s]
    · rw [rv_up_n e]; exact rv_up_n (by omega))
  refine ⟨⟨by omega, hs, fun i hi => ?_⟩, hs.ct⟩
  rw [n0]; exact q3 i (by omega)
section OU
variable {G : mj_G} {M M1 M2 M' : mj_M} {w : Nat → Nat} {x m s kp kc kr tp : Nat} {z1 z2 z3 : Int}
/-- between offer of the class and of the reference -/
def lq_o (w : Nat → Nat) (s m : Nat) (z1 z2 z3 : Int) (M M' : mj_M) (r : Int) : Prop := (¬ lq_ok (M.1 s) z1 z2 z3 ∧ r = 0 ∧ M' = M) ∨ (lq_ok (M.1 s) z1 z2 z3 ∧ r = 1 ∧ ∃ p q z z' h M1, lq_N M w p q ∧ M.1 m 28 = ((z : Nat) : Int) ∧ lq_zs z z' h ∧ lq_kp w z' h z1 z2 (M.1 s (12 * z1 + z2 + 88).toNat) M M1 ∧ lq_sb w p z1.toNat z2.toNat z3 M1 M')
theorem lq_of1 (gx : G x = (1011, 0)) (hJ : lq_J G M x s kp kc w) (hT : lq_T M s kp kr) (hU : lq_U G M x m s w) : mj_R mj_tab 40 136 [.inr (.inr (some x)), .inl z1, .inl z2, .inl z3] G M (fun r G' M' => G' = G ∧ ∃ y, r = some (.inl y) ∧ lq_o w s m z1 z2 z3 M M' y) := by
  obtain ⟨hA, hB, p, q, hN, h1, -⟩ := hJ
  obtain ⟨hUA, hUB, z, u1, u2, u3⟩ := hU
  exact r_X11_offer5 (d := 37) gx hA hB hN hUA hUB h1 hT.1.1.1 u2.1 u3.1 (fun no => ⟨rfl, 0, rfl, Or.inl ⟨no, rfl, rfl⟩⟩) (fun ok z' h' M1 M2 hz hk hs => ⟨rfl, 1, rfl, Or.inr ⟨ok, rfl, p, q, z, z', h', M1, hN, u1, hz, hk, hs⟩⟩)
theorem lq_of2 (gx : G x = (1011, 0)) (gm : G m = (1012, 0)) (gs : G s = (51100, 537)) (gk : G kp = (70100, 1076)) (gkc : G kc = (48102, 2)) (gkr : G kr = (72102, 2)) (m6 : M.2.2 m 6 = some s) (hJ : lq_J G M x s kp kc w) (hT : lq_T M s kp kr) (hU : lq_U G M x m s w) {y : Int} (ho : lq_o w s m z1 z2 z3 M M1 y) : mj_R mj_tab 40 220 [.inr (.inr (some m)), .inl z1, .inl z2, .inl z3] G M1 (fun r G' M' => G' = G ∧ r = some (.inl y) ∧ lq_J G M' x s kp kc w ∧ lq_T M' s kp kr ∧ lq_U G M' x m s w) := by
  obtain ⟨hUA, hUB, z, u1, u2, u3, u4⟩ := id hU
  obtain ⟨gud, gut, gum, gub, gun⟩ := id hUA
  have hA := hJ.1
  rcases ho with ⟨no, rfl, rfl⟩ | ⟨ok, rfl, p, q, z0, z', h, Mk, hN, e28, hz, hk, hs⟩
  · refine r_X12_offer5 (d := 37) gm gs gun m6 hUB.2.2.2.2 hT.1.1.1 (u2.2.1.ct) u2.1 u1 (fun _ => ⟨rfl, rfl, ?_, ?_, ?_⟩) (fun ok => absurd ok no)
    · exact hJ.of rfl (wz_c (hn_ne gk gm (by decide))) (wz_c (hn_ne gkc gm (by decide))) (fun p q hN h1 => h1.cg (lq_E6.p0 hA hN.pin.1 gm (by decide) (by decide) (by decide) (by decide)) (fun k _ => by rw [wz_c (hn_ne gs gm (by decide))])) (fun p q hN k _ => lq_E6.p0 hA (lq_ip_in k) gm (by decide) (by decide) (by decide) (by decide))
    · unfold lq_T
      rw [wz_c (hn_ne gs gm (by decide)), wz_c (hn_ne gk gm (by decide)), wz_c (hn_ne gkr gm (by decide))]; exact hT
    · refine ⟨hUA, hUB, z, (hn_n (Or.inr (by decide))).trans u1, ?_, ?_⟩
      · rw [wz_c (hn_ne gun gm (by decide)), wz_c (hn_ne gs gm (by decide))]; exact u2
      · unfold lq_Uc
        rw [wz_c (hn_ne gud gm (by decide)), wz_c (hn_ne gut gm (by decide)), wz_c (hn_ne gum gm (by decide)), wz_c (hn_ne gub gm (by decide)), wz_c (hn_ne gun gm (by decide))]; exact ⟨u3, u4⟩
  · have hz0 : z0 = z := by omega
    subst hz0
    have hp := hN.pin.1
    obtain ⟨gpl, -, -, -, -, -, gbr⟩ := hA.2.1 p hp
    have kk := ok
    obtain ⟨⟨k1, k2⟩, ⟨o1, o2⟩, ⟨n1, n2⟩, -⟩ := kk
    have b8 := hT.1.1.1.2
    have gr := gbr z1.toNat (by omega)
    obtain ⟨hk1, hk2, hk3, hk4, hk5, hk6, hk7⟩ := id hk
    obtain ⟨hs1, hs2, hs3, hs4, hs5⟩ := id hs
    have cc : ∀ {a t n : Nat}, G a = (t, n) → t ≠ 1009 → t ≠ 39100 → t ≠ 40100 → t ≠ 41100 → t ≠ 1004 → t ≠ 28100 → M1.1 a = M.1 a := fun ga a1 a2 a3 a4 a5 a6 => (hs2 _ (hn_ne ga gpl a5) (hn_ne ga gr a6)).trans (hk2 _ (hn_ne ga gud a1) (hn_ne ga gut a2) (hn_ne ga gum a3) (hn_ne ga gub a4))
    have es : M1.1 s = M.1 s := cc gs (by decide) (by decide) (by decide) (by decide) (by decide) (by decide)
    have em : M1.1 m = M.1 m := cc gm (by decide) (by decide) (by decide) (by decide) (by decide) (by decide)
    have eu : M1.1 (w 344) = M.1 (w 344) := cc gun (by decide) (by decide) (by decide) (by decide) (by decide) (by decide)
    have ek : M1.1 kp = M.1 kp := cc gk (by decide) (by decide) (by decide) (by decide) (by decide) (by decide)
    have ec : M1.1 kc = M.1 kc := cc gkc (by decide) (by decide) (by decide) (by decide) (by decide) (by decide)
    have er : M1.1 kr = M.1 kr := cc gkr (by decide) (by decide) (by decide) (by decide) (by decide) (by decide)
    have e2 : M1.2 = M.2 := hs1.trans hk1
    have jj : 88 + 12 * z1.toNat + z2.toNat = (12 * z1 + z2 + 88).toNat := by omega
    refine r_X12_offer5 (d := 37) (z := z0) gm gs gun (by rw [e2]; exact m6) (by rw [e2]; exact hUB.2.2.2.2) (by rw [es]; exact hT.1.1.1) (by rw [es]; exact u2.2.1.ct) u2.1 (by rw [em]; exact u1) (fun no => absurd (by rw [es]; exact ok) no) (fun _ z9 h9 M3 hz9 hr => ?_)
    have hzz : z9 = z' ∧ h9 = h := by
      rcases hz with ⟨a1, rfl, rfl⟩ | ⟨a1, rfl, rfl⟩ <;> rcases hz9 with ⟨b1, rfl, rfl⟩ | ⟨b1, rfl, rfl⟩ <;> omega
    obtain ⟨rfl, rfl⟩ := hzz
    obtain ⟨r1, r2, r3, r4, r5, r6, r7, r8⟩ := hr
    have c3 : ∀ {a t n : Nat}, G a = (t, n) → t ≠ 1012 → t ≠ 57100 → t ≠ 51100 → M3.1 a = M1.1 a := fun ga a1 a2 a3 => r2 _ (hn_ne ga gm a1) (hn_ne ga gun a2) (hn_ne ga gs a3)
    have E1 : ∀ R, R ∈ lq_Ps → lq_E6 w R M Mk := fun R hR => lq_E6.by hA hR (fun u a b => hk2 _ (hA.ne hR gud (by decide) (by decide) (by decide) (by decide) (by decide) (by decide) (by decide) u a b) (hA.ne hR gut (by decide) (by decide) (by decide) (by decide) (by decide) (by decide) (by decide) u a b) (hA.ne hR gum (by decide) (by decide) (by decide) (by decide) (by decide) (by decide) (by decide) u a b) (hA.ne hR gub (by decide) (by decide) (by decide) (by decide) (by decide) (by decide) (by decide) u a b))
    have E3 : ∀ R, R ∈ lq_Ps → lq_E6 w R M1 M3 := fun R hR => lq_E6.by hA hR (fun u a b => r2 _ (hA.ne hR gm (by decide) (by decide) (by decide) (by decide) (by decide) (by decide) (by decide) u a b) (hA.ne hR gun (by decide) (by decide) (by decide) (by decide) (by decide) (by decide) (by decide) u a b) (hA.ne hR gs (by decide) (by decide) (by decide) (by decide) (by decide) (by decide) (by decide) u a b))
    have s3 : M3.1 s = rv_up (M.1 s) (12 * z1 + z2 + 88).toNat z3 := by rw [r8, es]
    have UU := u2.off (U' := M3.1 (w 344)) hz hT.1 ok rfl (fun i hi => by rw [r4 i hi, eu]) r5 r6 (by rw [r7, es])
    refine ⟨rfl, rfl, ?_, ⟨?_, fun k hk h0 => ?_⟩, hUA, ?_, _, r3, ?_, ?_⟩
    · refine hJ.of (by rw [r1, e2]) ((c3 gk (by decide) (by decide) (by decide)).trans ek) ((c3 gkc (by decide) (by decide) (by decide)).trans ec) (fun p9 q9 hN9 h1 => ?_) (fun p9 q9 hN9 k _ => ?_)
      · have hpp : p9 = p := by
          have := hN9.1.symm.trans hN.1
          have := hA.1 _ _ (by have := lq_P4 hN9.pin.1; omega) (by have := lq_P4 hp; omega) (Option.some.inj this)
          exact this
        subst hpp
        have G1 := (h1.cg (E1 p9 hp) (fun _ _ => rfl)).set hA hp (by omega) (by omega) hs
        rw [jj] at G1
        rw [s3]
        exact G1.cg (E3 p9 hp) (fun _ _ => rfl)
      · exact ((E1 _ (lq_ip_in k)).tr (hs.E hA hp (by omega) (lq_ip_in k) (fun e => hN.pin.2 k e.symm))).tr (E3 _ (lq_ip_in k))
    · rw [s3]
      exact hT.1.set (by omega) (by omega) ⟨n1, n2⟩ (by omega) UU.2
    · rw [(c3 gkr (by decide) (by decide) (by decide)).trans er] at h0
      rw [(c3 gk (by decide) (by decide) (by decide)).trans ek]
      exact hT.2 k hk h0
    · unfold lq_UB; rw [r1, e2]; exact hUB
    · rw [s3]; exact UU.1
    · have v1 : M3.1 (w 121) = Mk.1 (w 121) := (c3 gud (by decide) (by decide) (by decide)).trans (hs2 _ (hn_ne gud gpl (by decide)) (hn_ne gud gr (by decide)))
      have v2 : M3.1 (w 122) = Mk.1 (w 122) := (c3 gut (by decide) (by decide) (by decide)).trans (hs2 _ (hn_ne gut gpl (by decide)) (hn_ne gut gr (by decide)))
      have v3 : M3.1 (w 123) = Mk.1 (w 123) := (c3 gum (by decide) (by decide) (by decide)).trans (hs2 _ (hn_ne gum gpl (by decide)) (hn_ne gum gr (by decide)))
      have v4 : M3.1 (w 124) = Mk.1 (w 124) := (c3 gub (by decide) (by decide) (by decide)).trans (hs2 _ (hn_ne gub gpl (by decide)) (hn_ne gub gr (by decide)))
      refine ⟨by rw [v1]; exact hk3, fun i hi => ?_⟩
      rw [v2, v3, v4]
      rcases Nat.lt_or_ge i z9 with a | a
      · obtain ⟨l1, l2, l3⟩ := hk4 i a
        have hi3 : i + h9 < z0 := by rcases hz with ⟨b1, rfl, rfl⟩ | ⟨b1, rfl, rfl⟩ <;> omega
        obtain ⟨m1, m2, m3⟩ := u4 (i + h9) hi3
        rw [l1, l2, l3, r4 _ (by omega), r4 _ (by omega), r4 _ (by omega), eu]
        rw [show 3 * i + 3 * h9 = 3 * (i + h9) by omega, show 3 * i + 1 + 3 * h9 = 3 * (i + h9) + 1 by omega, show 3 * i + 2 + 3 * h9 = 3 * (i + h9) + 2 by omega]
        exact ⟨m1, m2, m3⟩
      · have e : i = z9 := by omega
        subst e
        rw [r5, r6, r7, es]
        exact ⟨hk5, hk6, hk7⟩
/-- between undo of the class and of the reference -/
def lq_v (w : Nat → Nat) (m : Nat) (M M' : mj_M) (r : Int) : Prop := (M.1 m 28 = 0 ∧ r = -1 ∧ M' = M) ∨ (∃ y p q : Nat, M.1 m 28 = ((y + 1 : Nat) : Int) ∧ r = (y : Int) ∧ lq_N M w p q ∧ lq_sb w p (M.1 (w 344) (3 * y)).toNat (M.1 (w 344) (3 * y + 1)).toNat (M.1 (w 344) (3 * y + 2)) (mj_p0 M (w 121) 3 (y : Int)) M')
theorem lq_un1 (gx : G x = (1011, 0)) (hJ : lq_J G M x s kp kc w) (hT : lq_T M s kp kr) (hU : lq_U G M x m s w) : mj_R mj_tab 40 154 [.inr (.inr (some x))] G M (fun r G' M' => G' = G ∧ ∃ y, r = some (.inl y) ∧ lq_v w m M M' y) := by
  obtain ⟨hA, hB, p, q, hN, h1, -⟩ := hJ
  obtain ⟨hUA, hUB, z, u1, u2, u3, u4⟩ := hU
  have b8 := hT.1.1.1.2
  have cb := lq_ct_b (fun i => M.1 s (0 + (88 + i))) 96
  have c5 := h1.2.2
  refine r_X11_undo5 (s := s) (d := 37) gx hA hB hN hUA hUB u2.1 u3 (by omega) (by omega) (fun i hi => ?_) (fun e => ⟨rfl, -1, rfl, Or.inl ⟨by rw [u1, e]; rfl, rfl, rfl⟩⟩) (fun y e M2 hs => ⟨rfl, (y : Int), rfl, Or.inr ⟨y, p, q, by rw [u1, e], rfl, hN, ?_⟩⟩)
  · obtain ⟨a1, a2, -⟩ := u4 i hi
    have b := u2.2.2 i hi
    rw [a1, a2]; omega
  · obtain ⟨a1, a2, a3⟩ := u4 y (by omega)
    rw [a1, a2, a3] at hs; exact hs
theorem lq_un2 (gx : G x = (1011, 0)) (gm : G m = (1012, 0)) (gs : G s = (51100, 537)) (gk : G kp = (70100, 1076)) (gkc : G kc = (48102, 2)) (gkr : G kr = (72102, 2)) (m6 : M.2.2 m 6 = some s) (hJ : lq_J G M x s kp kc w) (hT : lq_T M s kp kr) (hU : lq_U G M x m s w) {y0 : Int} (ho : lq_v w m M M1 y0) : mj_R mj_tab 40 253 [.inr (.inr (some m))] G M1 (fun r G' M' => G' = G ∧ r = some (.inl y0) ∧ lq_J G M' x s kp kc w ∧ lq_T M' s kp kr ∧ lq_U G M' x m s w) := by
  obtain ⟨hUA, hUB, z, u1, u2, u3, u4⟩ := id hU
  obtain ⟨gud, gut, gum, gub, gun⟩ := id hUA
  have hA := hJ.1
  have b8 := hT.1.1.1.2
  have bnd : ∀ i, i < z → (0 ≤ M.1 (w 344) (3 * i) ∧ M.1 (w 344) (3 * i) < 8) ∧ (0 ≤ M.1 (w 344) (3 * i + 1) ∧ M.1 (w 344) (3 * i + 1) < 12) := fun i hi => by have b := u2.2.2 i hi; omega
  rcases ho with ⟨e0, rfl, rfl⟩ | ⟨y, p, q, e28, rfl, hN, hs⟩
  · refine r_X12_undo5 (d := 39) gm gs gun m6 hUB.2.2.2.2 u2.1 u1 bnd (fun _ => ⟨rfl, rfl, ?_, ?_, ?_⟩) (fun y e => by omega)
    · exact hJ.of rfl (wz_c (hn_ne gk gm (by decide))) (wz_c (hn_ne gkc gm (by decide))) (fun p q hN h1 => h1.cg (lq_E6.p0 hA hN.pin.1 gm (by decide) (by decide) (by decide) (by decide)) (fun k _ => by rw [wz_c (hn_ne gs gm (by decide))])) (fun p q hN k _ => lq_E6.p0 hA (lq_ip_in k) gm (by decide) (by decide) (by decide) (by decide))
    · unfold lq_T
      rw [wz_c (hn_ne gs gm (by decide)), wz_c (hn_ne gk gm (by decide)), wz_c (hn_ne gkr gm (by decide))]; exact hT
    · refine ⟨hUA, hUB, z, (hn_n (Or.inr (by decide))).trans u1, ?_, ?_⟩
      · rw [wz_c (hn_ne gun gm (by decide)), wz_c (hn_ne gs gm (by decide))]; exact u2
      · unfold lq_Uc
        rw [wz_c (hn_ne gud gm (by decide)), wz_c (hn_ne gut gm (by decide)), wz_c (hn_ne gum gm (by decide)), wz_c (hn_ne gub gm (by decide)), wz_c (hn_ne gun gm (by decide))]; exact ⟨u3, u4⟩
  · have hzy : z = y + 1 := by omega
    subst hzy
    have by_ := bnd y (by omega)
    have b3 := u2.2.2 y (by omega)
    have hp := hN.pin.1
    obtain ⟨gpl, -, -, -, -, -, gbr⟩ := hA.2.1 p hp
    have gr := gbr (M.1 (w 344) (3 * y)).toNat (by omega)
    obtain ⟨hs1, hs2, hs3, hs4, hs5⟩ := id hs
    have cc : ∀ {a t n : Nat}, G a = (t, n) → t ≠ 1009 → t ≠ 1004 → t ≠ 28100 → M1.1 a = M.1 a := fun ga a1 a5 a6 => (hs2 _ (hn_ne ga gpl a5) (hn_ne ga gr a6)).trans (wz_c (hn_ne ga gud a1))
    have es : M1.1 s = M.1 s := cc gs (by decide) (by decide) (by decide)
    have em : M1.1 m = M.1 m := cc gm (by decide) (by decide) (by decide)
    have eu : M1.1 (w 344) = M.1 (w 344) := cc gun (by decide) (by decide) (by decide)
    have e2 : M1.2 = M.2 := hs1
    have ns : s ≠ m := hn_ne gs gm (by decide)
    have jj : 88 + 12 * (M.1 (w 344) (3 * y)).toNat + (M.1 (w 344) (3 * y + 1)).toNat = (88 + 12 * M.1 (w 344) (3 * y) + M.1 (w 344) (3 * y + 1)).toNat := by omega
    refine r_X12_undo5 (d := 39) (z := y + 1) gm gs gun (by rw [e2]; exact m6) (by rw [e2]; exact hUB.2.2.2.2) u2.1 (by rw [em]; exact u1) (by rw [eu]; exact bnd) (fun e => by omega) (fun y9 e9 => ?_)
    have : y9 = y := by omega
    subst this
    rw [eu]
    have c3 : ∀ {a t n : Nat} {i v b j : Int} , G a = (t, n) → t ≠ 1012 → t ≠ 51100 → (mj_p0 (mj_p0 (mj_p0 M1 m 0 i) m 28 v) s j.toNat b).1 a = M1.1 a := fun ga a1 a3 => (wz_c (hn_ne ga gs a3)).trans ((wz_c (hn_ne ga gm a1)).trans (wz_c (hn_ne ga gm a1)))
    have E1 : ∀ R, R ∈ lq_Ps → lq_E6 w R M (mj_p0 M (w 121) 3 (y9 : Int)) := fun R hR => lq_E6.p0 hA hR gud (by decide) (by decide) (by decide) (by decide)
    have E3 : ∀ {i v b j : Int} R, R ∈ lq_Ps → lq_E6 w R M1 (mj_p0 (mj_p0 (mj_p0 M1 m 0 i) m 28 v) s j.toNat b) := fun R hR => lq_E6.by hA hR (fun u a b => (wz_c (hA.ne hR gs (by decide) (by decide) (by decide) (by decide) (by decide) (by decide) (by decide) u a b)).trans ((wz_c (hA.ne hR gm (by decide) (by decide) (by decide) (by decide) (by decide) (by decide) (by decide) u a b)).trans (wz_c (hA.ne hR gm (by decide) (by decide) (by decide) (by decide) (by decide) (by decide) (by decide) u a b))))
    have s3 : (mj_p0 (mj_p0 (mj_p0 M1 m 0 0) m 28 (y9 : Int)) s (88 + 12 * M.1 (w 344) (3 * y9) + M.1 (w 344) (3 * y9 + 1)).toNat (M.1 (w 344) (3 * y9 + 2))).1 s = rv_up (M.1 s) (88 + 12 * M.1 (w 344) (3 * y9) + M.1 (w 344) (3 * y9 + 1)).toNat (M.1 (w 344) (3 * y9 + 2)) := by
      funext i
      by_cases e : i = (88 + 12 * M.1 (w 344) (3 * y9) + M.1 (w 344) (3 * y9 + 1)).toNat
      · subst e; rw [rv_up_s]; exact hn_s
      · rw [rv_up_n e]; exact (hn_n (Or.inr e)).trans ((hn_n (Or.inl ns)).trans ((hn_n (Or.inl ns)).trans (by rw [es])))
    have UU := u2.back rfl (by omega)
    refine ⟨rfl, rfl, ?_, ⟨?_, fun k hk h0 => ?_⟩, hUA, ?_, y9, (hn_n (Or.inl (Ne.symm ns))).trans hn_s, ?_, ?_⟩
    · refine hJ.of (by show M1.2.2 = _; rw [e2]) ((c3 gk (by decide) (by decide)).trans (cc gk (by decide) (by decide) (by decide))) ((c3 gkc (by decide) (by decide)).trans (cc gkc (by decide) (by decide) (by decide))) (fun p9 q9 hN9 h1 => ?_) (fun p9 q9 hN9 k _ => ?_)
      · have hpp : p9 = p := by
          have := hN9.1.symm.trans hN.1
          have := hA.1 _ _ (by have := lq_P4 hN9.pin.1; omega) (by have := lq_P4 hp; omega) (Option.some.inj this)
          exact this
        subst hpp
        have G1 := (h1.cg (E1 p9 hp) (fun _ _ => rfl)).set hA hp (by omega) (by omega) hs
        rw [jj] at G1
        rw [s3]
        exact G1.cg (E3 p9 hp) (fun _ _ => rfl)
      · exact ((E1 _ (lq_ip_in k)).tr (hs.E hA hp (by omega) (lq_ip_in k) (fun e => hN.pin.2 k e.symm))).tr (E3 _ (lq_ip_in k))
    · rw [s3]
      exact hT.1.set (by omega) (by omega) ⟨b3.2.2.1, b3.2.2.2⟩ (by omega) UU.2
    · rw [(c3 gkr (by decide) (by decide)).trans (cc gkr (by decide) (by decide) (by decide))] at h0
      rw [(c3 gk (by decide) (by decide)).trans (cc gk (by decide) (by decide) (by decide))]
      exact hT.2 k hk h0
    · unfold lq_UB; show _ ∧ _; rw [show (mj_p0 (mj_p0 (mj_p0 M1 m 0 0) m 28 (y9 : Int)) s (88 + 12 * M.1 (w 344) (3 * y9) + M.1 (w 344) (3 * y9 + 1)).toNat (M.1 (w 344) (3 * y9 + 2))).2.2 = M.2.2 from congrArg Prod.snd e2]; exact hUB
    · rw [s3, (c3 gun (by decide) (by decide)).trans eu]; exact UU.1
    · refine ⟨?_, fun i hi => ?_⟩
      · rw [c3 gud (by decide) (by decide), hs2 _ (hn_ne gud gpl (by decide)) (hn_ne gud gr (by decide))]; exact hn_s
      · rw [(c3 gut (by decide) (by decide)).trans (cc gut (by decide) (by decide) (by decide)), (c3 gum (by decide) (by decide)).trans (cc gum (by decide) (by decide) (by decide)), (c3 gub (by decide) (by decide)).trans (cc gub (by decide) (by decide) (by decide)), (c3 gun (by decide) (by decide)).trans eu]
        exact u4 i (by omega)
end OU
end
section
/-! ===== the loop's invariant: tapes, images' marks, PLAINS with bids, what can be undone ===== -/
abbrev lq_8d (W : List (Nat × Nat × Nat)) : Prop := lq_9c W ∧ ∀ q ∈ W, q.1 ≠ 48102 ∧ q.1 ≠ 70100
abbrev lq_Ud (W : List (Nat × Nat × Nat)) : Prop := lq_Uo W ∧ ∀ q ∈ W, ¬ (q.1 = 1009 ∧ q.2.1 ≤ 3) ∧ ¬ (q.1 = 1012 ∧ q.2.1 ≤ 28 ∧ 28 ≤ q.2.2)
def lp_R (G : mj_G) (M : mj_M) (x m s kp kc kr : Nat) (w : Nat → Nat) : Prop := lw_K G M x m kc kr ∧ lq_mk M kc kr ∧ lq_J G M x s kp kc w ∧ lq_T M s kp kr ∧ lq_U G M x m s w
abbrev lp_Rd (W : List (Nat × Nat × Nat)) : Prop := lw_kx W = true ∧ lq_8d W ∧ (∀ q ∈ W, q.1 ≠ 72102) ∧ lq_Ud W
abbrev lp_Rc (W : List (Nat × Nat × Nat)) : Prop := lp_Rd W ∧ ∀ q ∈ W, ¬ (q.1 = 51100 ∧ q.2.1 < 184)
def lp_I (G : mj_G) (M : mj_M) (x m tp s kp bc bt kc kr : Nat) (w : Nat → Nat) : Prop := ((lw_V G M x m tp s kp ∧ M.1 tp 1 = M.1 m 2) ∧ lp_6 G M tp m bc bt ∧ M.1 bc = M.1 bt) ∧ lp_R G M x m s kp kc kr w
theorem lp_ok5 : an_ok mj_tab 40 127 = true ∧ an_ok mj_tab 40 144 = true ∧ an_ok mj_tab 40 157 = true ∧ an_ok mj_tab 40 110 = true ∧ an_ok mj_tab 40 162 = true := by decide +kernel
theorem lp_ok6 : an_ok mj_tab 40 136 = true ∧ an_ok mj_tab 40 220 = true ∧ an_ok mj_tab 40 154 = true ∧ an_ok mj_tab 40 253 = true ∧ an_ok mj_tab 40 259 = true ∧ an_ok mj_tab 40 215 = true := by decide +kernel
section PI
variable {G : mj_G} {M M' : mj_M} {x m tp s kp bc bt kc kr : Nat} {w : Nat → Nat} {W : List (Nat × Nat × Nat)}
theorem lp_mk_go (h : lq_mk M kc kr) (gc : G kc = (48102, 2)) (gr : G kr = (72102, 2)) (f : ab_frm W G M M') (c1 : ∀ q ∈ W, q.1 ≠ 48102) (c2 : ∀ q ∈ W, q.1 ≠ 72102) : lq_mk M' kc kr := fun k hk => by
  have e1 : M'.1 kc k = M.1 kc k := (f kc k (by rw [gc]; rintro ⟨q, hq, e1, -⟩; exact c1 q hq e1)).1
  have e2 : M'.1 kr k = M.1 kr k := (f kr k (by rw [gr]; rintro ⟨q, hq, e1, -⟩; exact c2 q hq e1)).1
  rw [e1, e2]; exact h k hk
theorem lp_es (gs : G s = (51100, 537)) (f : ab_frm W G M M') (c : ∀ q ∈ W, ¬ (q.1 = 51100 ∧ q.2.1 < 88)) (h : ∀ j, 88 ≤ j → j < 184 → M'.1 s j = M.1 s j) : ∀ k, k < 184 → M'.1 s k = M.1 s k := fun k hk => by
  rcases Nat.lt_or_ge k 88 with q | q
  · exact (f _ k (by rw [gs]; rintro ⟨r, hr, e1, e2, e3⟩; exact c r hr ⟨e1, by omega⟩)).1
  · exact h k q hk
theorem lp_es2 (gs : G s = (51100, 537)) (f : ab_frm W G M M') (c : ∀ q ∈ W, ¬ (q.1 = 51100 ∧ q.2.1 < 184)) : ∀ k, k < 184 → M'.1 s k = M.1 s k := fun k hk =>
  (f _ k (by rw [gs]; rintro ⟨r, hr, e1, e2, e3⟩; exact c r hr ⟨e1, by omega⟩)).1
theorem lq_J.ge (h : lq_J G M x s kp kc w) (gx : G x = (1011, 0)) (gk : G kp = (70100, 1076)) (gc : G kc = (48102, 2)) (f : ab_frm W G M M') (c : lq_8d W) (es : ∀ k, k < 184 → M'.1 s k = M.1 s k) : lq_J G M' x s kp kc w := by
  obtain ⟨hA, hB, p, q, hN, h1, h2⟩ := h
  have ek : ∀ k, M'.1 kp k = M.1 kp k := fun k => (f _ k (by
    rw [gk]; rintro ⟨r, hr, e1, e2, e3⟩; exact (c.2 r hr).2 e1)).1
  have ec : ∀ k, M'.1 kc k = M.1 kc k := fun k => (f _ k (by
    rw [gc]; rintro ⟨r, hr, e1, e2, e3⟩; exact (c.2 r hr).1 e1)).1
  refine ⟨hA, hB.go hA gx f c.1, p, q, hN.go hA f c.1, h1.cg (lq_E6.go hA hN.pin.1 f c.1) (fun k hk => by rw [Nat.zero_add]; exact es k hk), fun k hk h0 => ?_⟩
  rw [ec k] at h0
  exact (h2 k hk h0).cg (lq_E6.go hA (lq_ip_in k) f c.1) (fun j _ => ek _)
theorem lq_T.ge (h : lq_T M s kp kr) (gk : G kp = (70100, 1076)) (gr : G kr = (72102, 2)) (f : ab_frm W G M M') (c2 : ∀ q ∈ W, q.1 ≠ 70100) (c3 : ∀ q ∈ W, q.1 ≠ 72102) (es : ∀ k, k < 184 → M'.1 s k = M.1 s k) : lq_T M' s kp kr := by
  have ek : ∀ k, M'.1 kp k = M.1 kp k := fun k => (f _ k (by
    rw [gk]; rintro ⟨r, hr, e1, e2, e3⟩; exact c2 r hr e1)).1
  have er : ∀ k, M'.1 kr k = M.1 kr k := fun k => (f _ k (by
    rw [gr]; rintro ⟨r, hr, e1, e2, e3⟩; exact c3 r hr e1)).1
  refine ⟨h.1.cg (fun k hk => by rw [Nat.zero_add]; exact es k hk), fun k hk h0 => ?_⟩
  rw [er k] at h0
  exact (h.2 k hk h0).cg (fun j _ => ek _)
theorem lq_U.ge (h : lq_U G M x m s w) (gx : G x = (1011, 0)) (gm : G m = (1012, 0)) (f : ab_frm W G M M') (c : lq_Ud W) (es : ∀ k, k < 184 → M'.1 s k = M.1 s k) : lq_U G M' x m s w := by
  obtain ⟨hA, hB, z, z1, z2, z3, z4⟩ := h
  obtain ⟨a1, a2, a3, a4⟩ := hA.ar f c.1
  refine ⟨hA, hB.go hA gx gm f c.1, z, (f _ _ ?_).1.trans z1, z2.cg (fun i _ => by rw [a4]) (es 0 (by decide)) (fun i hi => es _ (by omega)), (f _ _ ?_).1.trans z3, fun i hi => ?_⟩
  · rw [gm]; rintro ⟨r, hr, e1, e2, e3⟩; exact (c.2 r hr).2 ⟨e1, e2, e3⟩
  · rw [hA.1]; rintro ⟨r, hr, e1, e2, e3⟩; exact (c.2 r hr).1 ⟨e1, e2⟩
  · rw [a1, a2, a3, a4]; exact z4 i hi
theorem lq_T.pl {y : rv_Om} (h : lq_T M s kp kr) (gk : G kp = (70100, 1076)) (gr : G kr = (72102, 2)) (f : ab_frm W G M M') (c2 : ∀ q ∈ W, q.1 ≠ 70100) (c3 : ∀ q ∈ W, q.1 ≠ 72102) (o1 : ∀ e, y = .inl e → M'.1 s = M.1 s) (o2 : ∀ PL WA OA TO BI nm r, y = .inr (PL, WA, OA, TO, BI, nm, r) → (∃ ns, rv_QO s ns PL WA TO BI nm M') ∧ rv_ps PL WA TO BI) : lq_T M' s kp kr := by
  have ek : ∀ k, M'.1 kp k = M.1 kp k := fun k => (f _ k (by
    rw [gk]; rintro ⟨r, hr, e1, e2, e3⟩; exact c2 r hr e1)).1
  have er : ∀ k, M'.1 kr k = M.1 kr k := fun k => (f _ k (by
    rw [gr]; rintro ⟨r, hr, e1, e2, e3⟩; exact c3 r hr e1)).1
  refine ⟨?_, fun k hk h0 => ?_⟩
  · rcases y with e | ⟨PL', WA', OA', TO', BI', nm', r'⟩
    · rw [o1 e rfl]; exact h.1
    · obtain ⟨⟨ns, q, -⟩, hp⟩ := o2 _ _ _ _ _ _ _ rfl
      exact rv_r6.of q hp
  · rw [er k] at h0
    exact (h.2 k hk h0).cg (fun j _ => ek _)
theorem lq_T.img {z1 : Int} (h : lq_T M s kp kr) (gs : G s = (51100, 537)) (f : ab_frm hn_WI G M M') (o : (¬ (0 ≤ z1 ∧ z1 ≤ 1) ∧ (∀ q, M'.1 kr q = M.1 kr q) ∧ M'.1 kp = M.1 kp) ∨ (∃ k : Nat, k ≤ 1 ∧ z1 = (k : Int) ∧ M'.1 kr k = 1 ∧ (∀ q, q ≠ k → M'.1 kr q = M.1 kr q) ∧ (∀ p, p < 537 → M'.1 kp (538 * k + p) = M.1 s p) ∧ (∀ q, q < 538 * k ∨ 538 * k + 538 ≤ q → M'.1 kp q = M.1 kp q))) : lq_T M' s kp kr := by
  have es : M'.1 s = M.1 s := funext fun k => (f s k (by rw [gs]; exact hn_nt (by decide))).1
  refine ⟨by rw [es]; exact h.1, fun k hk h0 => ?_⟩
  rcases o with ⟨n1, n2, n3⟩ | ⟨k0, j1, j2, j3, j4, j5, j6⟩
  · rw [n2] at h0; rw [n3]; exact h.2 k hk h0
  · by_cases e : k = k0
    · subst e
      exact h.1.cg (fun i hi => by rw [Nat.zero_add]; exact j5 i (by omega))
    · rw [j4 k e] at h0
      exact (h.2 k hk h0).cg (fun i hi => j6 _ (by omega))
theorem lq_T.rst {z1 : Int} (h : lq_T M s kp kr) (gk : G kp = (70100, 1076)) (gkr : G kr = (72102, 2)) (f : ab_frm hn_WR G M M') (o : ((¬ (0 ≤ z1 ∧ z1 ≤ 1) ∨ M.1 kr z1.toNat = 0) ∧ M'.1 s = M.1 s) ∨ (∃ k : Nat, k ≤ 1 ∧ z1 = (k : Int) ∧ M.1 kr k ≠ 0 ∧ (∀ p, p < 537 → M'.1 s p = M.1 kp (538 * k + p)))) : lq_T M' s kp kr := by
  have ek : M'.1 kp = M.1 kp := funext fun k => (f kp k (by rw [gk]; exact hn_nt (by decide))).1
  have er : M'.1 kr = M.1 kr := funext fun k => (f kr k (by rw [gkr]; exact hn_nt (by decide))).1
  refine ⟨?_, fun k hk h0 => by rw [er] at h0; rw [ek]; exact h.2 k hk h0⟩
  rcases o with ⟨n1, n2⟩ | ⟨k0, j1, j2, j3, j4⟩
  · rw [n2]; exact h.1
  · exact (h.2 k0 (by omega) j3).cg (fun i hi => by rw [Nat.zero_add]; exact j4 i (by omega))
/-- what can be undone between plain of the class and of the reference -/
def lq_up (G : mj_G) (M : mj_M) (x m s : Nat) (w : Nat → Nat) (y : rv_Om) : Prop := lq_UA G w ∧ lq_UB M w x m ∧ (∀ e, y = .inl e → lq_U G M x m s w) ∧ (∀ e, y = .inr e → M.1 (w 121) 3 = 0)
theorem lq_up1 {y : rv_Om} (hU : lq_U G M x m s w) (gx : G x = (1011, 0)) (gm : G m = (1012, 0)) (gs : G s = (51100, 537)) (f : ab_frm W G M M') (c : lq_Uo W) (c2 : ∀ q ∈ W, q.1 ≠ 1012 ∧ q.1 ≠ 51100) (o1 : ∀ e, y = .inl e → M'.1 (w 121) = M.1 (w 121)) (o2 : ∀ e, y = .inr e → M'.1 (w 121) 3 = 0) : lq_up G M' x m s w y := by
  obtain ⟨hA, hB, z, z1, z2, z3, z4⟩ := hU
  obtain ⟨a1, a2, a3, a4⟩ := hA.ar f c
  have B' := hB.go hA gx gm f c
  have es : ∀ k, M'.1 s k = M.1 s k := fun k => (f _ k (by
    rw [gs]; rintro ⟨r, hr, e1, -⟩; exact (c2 r hr).2 e1)).1
  refine ⟨hA, B', fun e he => ⟨hA, B', z, (f _ _ ?_).1.trans z1, z2.cg (fun i _ => by rw [a4]) (es 0) (fun i hi => es _), by rw [o1 e he]; exact z3, fun i hi => ?_⟩, o2⟩
  · rw [gm]; rintro ⟨r, hr, e1, -⟩; exact (c2 r hr).1 e1
  · rw [a1, a2, a3, a4]; exact z4 i hi
theorem lq_up2 {y : rv_Om} (h : lq_up G M x m s w y) (gx : G x = (1011, 0)) (gm : G m = (1012, 0)) (f : ab_frm W G M M') (c : lq_Uo W) (c2 : ∀ q ∈ W, q.1 ≠ 1009) (o1 : ∀ e, y = .inl e → M'.1 s = M.1 s ∧ M'.1 m 28 = M.1 m 28) (o2 : ∀ e, y = .inr e → M'.1 m 28 = 0) (r6 : rv_r6 (M'.1 s) 0) : lq_U G M' x m s w := by
  obtain ⟨hA, hB, h1, h2⟩ := h
  obtain ⟨a1, a2, a3, a4⟩ := hA.ar f c
  have B' := hB.go hA gx gm f c
  have eu : M'.1 (w 121) 3 = M.1 (w 121) 3 := (f _ _ (by
    rw [hA.1]; rintro ⟨r, hr, e1, -⟩; exact c2 r hr e1)).1
  rcases y with e | e
  · obtain ⟨-, -, z, z1, z2, z3, z4⟩ := h1 e rfl
    obtain ⟨s1, s2⟩ := o1 e rfl
    exact ⟨hA, B', z, s2.trans z1, z2.cg (fun i _ => by rw [a4]) (by rw [s1]) (fun i hi => by rw [s1]), eu.trans z3, fun i hi => by rw [a1, a2, a3, a4]; exact z4 i hi⟩
  · have ct := r6.2.2
    rw [lq_ct_cg (g := fun i => M'.1 s (88 + i)) 96 (fun i hi => by rw [Nat.zero_add])] at ct
    exact ⟨hA, B', 0, o2 e rfl, lq_Uz.no ct, eu.trans (h2 e rfl), fun i hi => absurd hi (Nat.not_lt_zero i)⟩
/-- and between restore of both sides -/
def lq_ur (G : mj_G) (M : mj_M) (x m s kc : Nat) (w : Nat → Nat) (z1 : Int) : Prop := lq_UA G w ∧ lq_UB M w x m ∧ ((∀ k : Nat, k < 2 → z1 = (k : Int) → M.1 kc k = 0) → lq_U G M x m s w) ∧ (∀ k : Nat, k < 2 → z1 = (k : Int) → M.1 kc k ≠ 0 → M.1 (w 121) 3 = 0)
theorem lq_ur1 {z1 : Int} (hU : lq_U G M x m s w) (gx : G x = (1011, 0)) (gm : G m = (1012, 0)) (gs : G s = (51100, 537)) (gkc : G kc = (48102, 2)) (f : ab_frm W G M M') (c : lq_Uo W) (c2 : ∀ q ∈ W, q.1 ≠ 1012 ∧ q.1 ≠ 51100 ∧ q.1 ≠ 48102) (o1 : (∀ k : Nat, k < 2 → z1 = (k : Int) → M.1 kc k = 0) → M'.1 (w 121) = M.1 (w 121)) (o2 : ∀ k : Nat, k < 2 → z1 = (k : Int) → M.1 kc k ≠ 0 → M'.1 (w 121) 3 = 0) : lq_ur G M' x m s kc w z1 := by
  obtain ⟨hA, hB, z, h1, h2, h3, h4⟩ := hU
  obtain ⟨a1, a2, a3, a4⟩ := hA.ar f c
  have B' := hB.go hA gx gm f c
  have es : ∀ k, M'.1 s k = M.1 s k := fun k => (f _ k (by
    rw [gs]; rintro ⟨r, hr, e1, -⟩; exact (c2 r hr).2.1 e1)).1
  have ec : ∀ k, M'.1 kc k = M.1 kc k := fun k => (f _ k (by
    rw [gkc]; rintro ⟨r, hr, e1, -⟩; exact (c2 r hr).2.2 e1)).1
  refine ⟨hA, B', fun hn => ⟨hA, B', z, (f _ _ ?_).1.trans h1, h2.cg (fun i _ => by rw [a4]) (es 0) (fun i hi => es _), ?_, fun i hi => ?_⟩, fun k hk e hc => o2 k hk e (by rw [← ec k]; exact hc)⟩
  · rw [gm]; rintro ⟨r, hr, e1, -⟩; exact (c2 r hr).1 e1
  · rw [o1 (fun k hk e => by rw [← ec k]; exact hn k hk e)]; exact h3
  · rw [a1, a2, a3, a4]; exact h4 i hi
theorem lq_ur2 {z1 : Int} (h : lq_ur G M x m s kc w z1) (hmk : lq_mk M kc kr) (hT : lq_T M s kp kr) (gx : G x = (1011, 0)) (gm : G m = (1012, 0)) (f : ab_frm W G M M') (c : lq_Uo W) (c2 : ∀ q ∈ W, q.1 ≠ 1009) (o : ((¬ (0 ≤ z1 ∧ z1 ≤ 1) ∨ M.1 kr z1.toNat = 0) ∧ M'.1 s = M.1 s ∧ M'.1 m 28 = M.1 m 28) ∨ (∃ k : Nat, k ≤ 1 ∧ z1 = (k : Int) ∧ M.1 kr k ≠ 0 ∧ (∀ p, p < 537 → M'.1 s p = M.1 kp (538 * k + p)) ∧ M'.1 m 28 = 0)) : lq_U G M' x m s w := by
  obtain ⟨hA, hB, h1, h2⟩ := h
  obtain ⟨a1, a2, a3, a4⟩ := hA.ar f c
  have B' := hB.go hA gx gm f c
  have eu : M'.1 (w 121) 3 = M.1 (w 121) 3 := (f _ _ (by
    rw [hA.1]; rintro ⟨r, hr, e1, -⟩; exact c2 r hr e1)).1
  rcases o with ⟨n1, s1, s2⟩ | ⟨k0, j1, j2, j3, j4, j5⟩
  · have hn : ∀ k : Nat, k < 2 → z1 = (k : Int) → M.1 kc k = 0 := fun k hk e => by
      rcases n1 with n1 | n1
      · exact absurd ⟨by omega, by omega⟩ n1
      · rw [hmk k hk]
        rw [show z1.toNat = k by omega] at n1
        exact n1
    obtain ⟨-, -, z, z1, z2, z3, z4⟩ := h1 hn
    exact ⟨hA, B', z, s2.trans z1, z2.cg (fun i _ => by rw [a4]) (by rw [s1]) (fun i hi => by rw [s1]), eu.trans z3, fun i hi => by rw [a1, a2, a3, a4]; exact z4 i hi⟩
  · have ct := (hT.2 k0 (by omega) j3).2.2
    rw [lq_ct_cg (g := fun i => M'.1 s (88 + i)) 96 (fun i hi => (j4 (88 + i) (by omega)).symm)] at ct
    exact ⟨hA, B', 0, j5, lq_Uz.no ct, eu.trans (h2 k0 (by omega) j2 (by rw [hmk k0 (by omega)]; exact j3)), fun i hi => absurd hi (Nat.not_lt_zero i)⟩
theorem lp_R.ge (h : lp_R G M x m s kp kc kr w) (g : G x = (1011, 0) ∧ G m = (1012, 0) ∧ G tp = (1008, 0) ∧ G s = (51100, 537) ∧ G kp = (70100, 1076)) (f : ab_frm W G M M') (c : lp_Rd W) (es : ∀ k, k < 184 → M'.1 s k = M.1 s k) : lp_R G M' x m s kp kc kr w :=
  ⟨h.1.fr g.1 g.2.1 f c.1, lp_mk_go h.2.1 h.1.1 h.1.2.1 f (fun q hq => (c.2.1.2 q hq).1) c.2.2.1, h.2.2.1.ge g.1 g.2.2.2.2 h.1.1 f c.2.1 es, h.2.2.2.1.ge g.2.2.2.2 h.1.2.1 f (fun q hq => (c.2.1.2 q hq).2) c.2.2.1 es, h.2.2.2.2.ge g.1 g.2.1 f c.2.2.2 es⟩
theorem lp_R.go (h : lp_R G M x m s kp kc kr w) (g : G x = (1011, 0) ∧ G m = (1012, 0) ∧ G tp = (1008, 0) ∧ G s = (51100, 537) ∧ G kp = (70100, 1076)) (f : ab_frm W G M M') (c : lp_Rc W) : lp_R G M' x m s kp kc kr w := h.ge g f c.1 (lp_es2 g.2.2.2.1 f c.2)
theorem lp_I.ge (hI : lp_I G M x m tp s kp bc bt kc kr w) (V : lw_V G M' x m tp s kp) (S : M'.1 tp 1 = M.1 tp 1 ∧ M'.1 m 2 = M.1 m 2) (f : ab_frm W G M M') (c6 : lp_6c W) (c7 : lp_7c W) (cR : lp_Rd W) (es : ∀ k, k < 184 → M'.1 s k = M.1 s k) : lp_I G M' x m tp s kp bc bt kc kr w :=
  ⟨⟨⟨V, S.1.trans (hI.1.1.2.trans S.2.symm)⟩, hI.1.2.1.go hI.1.1.1.2.1.2.2.1 hI.1.1.1.2.1.2.1 f c6, (lp_7.c hI.1.2.1.1 f (fun q hq => (c7 q hq).1)).trans (hI.1.2.2.trans (lp_7.t hI.1.2.1.2.1 f (fun q hq => (c7 q hq).2)).symm)⟩, hI.2.ge hI.1.1.1.2.1 f cR es⟩
theorem lp_I.go (hI : lp_I G M x m tp s kp bc bt kc kr w) (V : lw_V G M' x m tp s kp) (S : M'.1 tp 1 = M.1 tp 1 ∧ M'.1 m 2 = M.1 m 2) (f : ab_frm W G M M') (c6 : lp_6c W) (c7 : lp_7c W) (cR : lp_Rc W) : lp_I G M' x m tp s kp bc bt kc kr w := hI.ge V S f c6 c7 cR.1 (lp_es2 hI.1.1.1.2.1.2.2.2.1 f cR.2)
theorem lq_J.mv (h : lq_J G M x s kp kc w) (e1 : M'.1 = M.1) (e2 : M'.2.2 = M.2.2) : lq_J G M' x s kp kc w := by
  obtain ⟨hA, hB, p, q, hN, h1, h2⟩ := h
  refine ⟨hA, by unfold lq_B; rw [e2]; exact hB, p, q, by unfold lq_N; rw [e2]; exact hN, by unfold rv_G6 rv_G4; rw [e1]; exact h1, fun k hk h0 => ?_⟩
  rw [e1] at h0
  unfold rv_G6 rv_G4; rw [e1]; exact h2 k hk h0
theorem lp_I.mv (hI : lp_I G M x m tp s kp bc bt kc kr w) (e1 : M'.1 = M.1) (e2 : M'.2.2 = M.2.2) (e3 : ∀ y k, (G y).1 = 55103 → M'.2.1 y k = M.2.1 y k) : lp_I G M' x m tp s kp bc bt kc kr w := by
  obtain ⟨⟨⟨⟨⟨i1, i2, i3, i4, i5⟩, g, r, f1, f2, f3⟩, e⟩, ⟨a1, a2, a3, a4, a5, a6⟩, a7⟩, ⟨q1, q2, q3, q4⟩, q5, q6, q7, q8⟩ := hI
  refine ⟨⟨⟨⟨⟨?_, ?_, i3, i4, fun a k ha hk => (e3 a k ha).trans (i5 a k ha hk)⟩, g, ?_, f1.cg (fun k _ => by rw [e1]), f2.cg (fun k _ => by rw [e1]), f3.cg (fun k _ => by rw [e1])⟩, ?_⟩, ⟨a1, a2, by rw [e2]; exact a3, by rw [e2]; exact a4, fun a ha k hk => ?_, fun a ha s t hs ht q => a6 a ha s t hs ht (by rw [e2] at q; exact q)⟩, by rw [e1]; exact a7⟩, ⟨q1, q2, by rw [e2]; exact q3, by rw [e2]; exact q4⟩, fun k hk => by rw [e1]; exact q5 k hk, q6.mv e1 e2, by unfold lq_T; rw [e1]; exact q7, q8.mv e1 e2⟩
  · rw [e1]; exact i1
  · rw [e2]; exact i2
  · rw [e2]; exact r
  · rw [e1]; exact e
  · rw [e2]; exact a5 a ha k hk
/-! what the invariant tells, by name -/
theorem lp_I.gx (h : lp_I G M x m tp s kp bc bt kc kr w) : G x = (1011, 0) := h.1.1.1.2.1.1
theorem lp_I.gm (h : lp_I G M x m tp s kp bc bt kc kr w) : G m = (1012, 0) := h.1.1.1.2.1.2.1
theorem lp_I.gs (h : lp_I G M x m tp s kp bc bt kc kr w) : G s = (51100, 537) := h.1.1.1.2.1.2.2.2.1
theorem lp_I.m6 (h : lp_I G M x m tp s kp bc bt kc kr w) : M.2.2 m 6 = some s := h.1.1.1.2.2.1.2.1
theorem lp_I.V (h : lp_I G M x m tp s kp bc bt kc kr w) : lw_V G M x m tp s kp := h.1.1.1
theorem lp_I.J (h : lp_I G M x m tp s kp bc bt kc kr w) : lq_J G M x s kp kc w := h.2.2.2.1
theorem lp_I.T (h : lp_I G M x m tp s kp bc bt kc kr w) : lq_T M s kp kr := h.2.2.2.2.1
theorem lp_I.U (h : lp_I G M x m tp s kp bc bt kc kr w) : lq_U G M x m s w := h.2.2.2.2.2
theorem lp_I.r4 (h : lp_I G M x m tp s kp bc bt kc kr w) : rv_r4 (M.1 s) 0 := h.2.2.2.2.1.1.1
theorem lp_I.b0 (h : lp_I G M x m tp s kp bc bt kc kr w) : 0 ≤ M.1 s 0 ∧ M.1 s 0 ≤ 8 := h.2.2.2.2.1.1.1.1
end PI
/-! ===== begin, as the PLAIN now asks for it ===== -/
def lr_begin (H : Nat → Int) : Int := if H 0 = 0 then 0 else 1
section RB
variable {G : mj_G} {M : mj_M} {x m tp s kp bc bt kc kr : Nat} {w : Nat → Nat}
theorem lr_X11_begin (hI : lp_I G M x m tp s kp bc bt kc kr w) : mj_R mj_tab 40 110 [.inr (.inr (some x))] G M (fun r _ _ => r = some (.inl (lr_begin (M.1 s)))) := by
  obtain ⟨hA, hB, p, q, hN, h1, -⟩ := hI.J
  have e : M.1 s 0 = M.1 (w p) 4 := h1.1.1
  exact r_X11_begin4 hI.1.1.1.1 hI.gx hA hB hN (fun h _ => by unfold lr_begin; rw [e, if_pos h]) (fun h _ => by unfold lr_begin; rw [e, if_neg h])
theorem lr_X12_begin (hI : lp_I G M x m tp s kp bc bt kc kr w) : mj_R mj_tab 40 162 [.inr (.inr (some m))] G M (fun r _ _ => r = some (.inl (lr_begin (M.1 s)))) :=
  r_X12_begin4 hI.1.1.1.1 hI.gm hI.gs hI.m6 (fun h _ => by unfold lr_begin; rw [if_pos h]) (fun h _ => by unfold lr_begin; rw [if_neg h])
end RB
end
section
/-! ===== the PLAIN with its bids, and what can be undone, at the loop's head (over V3.2) ===== -/
theorem sz_lq_lt : ∀ e ∈ sz_lq, e.1 < 361 ∧ e.2.2 ≤ 4096 := by decide +kernel
def sz_q (i k : Nat) : Bool := sz_lq.any (fun e => Nat.beq e.1 i && (Nat.ble e.2.1 k && Nat.blt k e.2.2))
theorem sz_q_s {w : sx_w} {h : sx_H} {G : mj_G} {M : mj_M} {i k : Nat} (hR : sx_RH w h G M) (k2 : sz_hk h = true) (hq : sz_q i k = true) : (sz_M w h G M).1 (w.2.2.2 i) k = 0 := by
  have n1 := (sz_hk_s k2).1
  obtain ⟨e, he, q⟩ := List.any_eq_true.mp hq
  rw [Bool.and_eq_true, Bool.and_eq_true] at q
  obtain ⟨q1, q2, q3⟩ := q
  obtain rfl := Nat.eq_of_beq_eq_true q1
  have q2 := Nat.le_of_ble_eq_true q2
  have q3 : k < e.2.2 := Nat.le_of_ble_eq_true q3
  have l := sz_lq_lt e he
  exact sz_izr_s ((sz_hz_s k2).1 e he) hR (by omega) q2 q3 (by omega)
theorem lq_ct_0 : lq_ct (fun _ => 0) 96 = 0 := by decide +kernel
theorem sz_head4 {w : sx_w} {h : sx_H} {G : mj_G} {M : mj_M} (hR : sx_RH w h G M) (k2 : sz_hk h = true) : rv_r4 ((sz_M w h G M).1 (w.2.2.2 338)) 0 := by
  have n1 := (sz_hk_s k2).1
  obtain ⟨ya, yb, yc, y3, y4⟩ := sz_hy_s k2
  have s3 : (sz_M w h G M).1 (w.2.2.2 338) 3 = 3 := sz_i3_s y4 hR (by omega) (by decide) (by
    have g := sz_tg_s (sz_hk_s k2).2.2.1.2.2.2.1 hR (by omega)
    rw [sz_G_in (by omega)] at g
    rw [g]; decide)
  have zs : ∀ k, k < 88 → k ≠ 3 → (sz_M w h G M).1 (w.2.2.2 338) k = 0 := by
    intro k hk h3
    have key : ∀ k : Fin 88, k.val ≠ 3 → sz_q 338 k.val = true := by decide +kernel
    exact sz_q_s hR k2 (key ⟨k, hk⟩ h3)
  refine ⟨by rw [zs 0 (by decide) (by decide)]; decide, by rw [Nat.zero_add, zs 1 (by decide) (by decide)]; decide, by rw [Nat.zero_add, zs 2 (by decide) (by decide)]; decide, by rw [Nat.zero_add, s3]; decide, fun t v ht hv => ?_, fun v hv => ?_⟩
  · rw [Nat.zero_add, zs _ (by omega) (by omega)]; exact ⟨by decide, by decide, Or.inr rfl⟩
  · rw [Nat.zero_add, zs _ (by omega) (by omega)]; decide
theorem sz_head6 {w : sx_w} {h : sx_H} {G : mj_G} {M : mj_M} (hR : sx_RH w h G M) (k2 : sz_hk h = true) : rv_G6 ((sz_M w h G M).1 (w.2.2.2 338)) 0 w.2.2.2 30 (sz_M w h G M) ∧ rv_r6 ((sz_M w h G M).1 (w.2.2.2 338)) 0 ∧ lq_U (sz_G w h G) (sz_M w h G M) (w.2.2.2 26) (w.2.2.2 336) (w.2.2.2 338) w.2.2.2 := by
  have n1 := (sz_hk_s k2).1
  obtain ⟨ya, yb, -, -, -⟩ := sz_hy_s k2
  have tg : ∀ i t n, (i, t, n) ∈ sz_lt → sz_G w h G (w.2.2.2 i) = (t, n) := fun i t n he => sz_tg_s (yb (i, t, n) he) hR (by have := sz_lt_lt _ he; omega)
  have rq : ∀ i k j, (i, k, j) ∈ sz_lr → (sz_M w h G M).2.2 (w.2.2.2 i) k = some (w.2.2.2 j) := fun i k j he => sz_rq_s (ya (i, k, j) he) hR (by have := (sz_lr_lt _ he).1; omega) (sz_lr_lt _ he).2
  have zs : ∀ k, 88 ≤ k → k < 184 → (sz_M w h G M).1 (w.2.2.2 338) k = 0 := by
    intro k h1 h2
    have key : ∀ k : Fin 96, sz_q 338 (88 + k.val) = true := by decide +kernel
    have := sz_q_s hR k2 (key ⟨k - 88, by omega⟩)
    rw [show 88 + (k - 88) = k by omega] at this; exact this
  have zb : ∀ t v, t < 8 → v < 12 → (sz_M w h G M).1 (w.2.2.2 (30 + 12 + t)) v = 0 := by
    intro t v ht hv
    have key : ∀ (t : Fin 8) (v : Fin 12), sz_q (30 + 12 + t.val) v.val = true := by decide +kernel
    exact sz_q_s hR k2 (key ⟨t, ht⟩ ⟨v, hv⟩)
  have ct : lq_ct (fun i => (sz_M w h G M).1 (w.2.2.2 338) (88 + i)) 96 = 0 := (lq_ct_cg (g := fun _ => 0) 96 (fun i hi => zs (88 + i) (by omega) (by omega))).trans lq_ct_0
  have ct0 : lq_ct (fun i => (sz_M w h G M).1 (w.2.2.2 338) (0 + (88 + i))) 96 = 0 := (lq_ct_cg (g := fun _ => 0) 96 (fun i hi => zs (0 + (88 + i)) (by omega) (by omega))).trans lq_ct_0
  refine ⟨⟨(sz_head3 hR k2).2.2.2, fun t v ht hv => ?_, ?_⟩, ⟨sz_head4 hR k2, fun t v ht hv => ?_, by rw [ct0]; decide⟩, ?_⟩
  · rw [zs _ (by omega) (by omega), zb t v ht hv]
  · rw [ct0]; exact sz_q_s hR k2 (by decide +kernel)
  · rw [zs _ (by omega) (by omega)]; exact ⟨by decide, by decide, Or.inr rfl⟩
  · refine ⟨⟨tg _ _ _ (by decide +kernel), tg _ _ _ (by decide +kernel), tg _ _ _ (by decide +kernel), tg _ _ _ (by decide +kernel), tg _ _ _ (by decide +kernel)⟩, ⟨rq _ _ _ (by decide +kernel), rq _ _ _ (by decide +kernel), rq _ _ _ (by decide +kernel), rq _ _ _ (by decide +kernel), rq _ _ _ (by decide +kernel)⟩, 0, sz_q_s hR k2 (by decide +kernel), lq_Uz.no (by rw [ct]; decide), sz_q_s hR k2 (by decide +kernel), fun i hi => absurd hi (Nat.not_lt_zero i)⟩
end
section
/-! ===== water, as the PLAIN now asks for it (laid by a program) ===== -/
theorem lq_rW {H : Nat → Int} {w : Nat → Nat} {p v j : Nat} {M : mj_M} (h : rv_G4 H 0 w p M) (hv : v < 12) (e : j = 76 + v) : M.1 (w (p + 20)) v = H j := by
  subst e; rw [← h.2.2.2.2.2 v hv, Nat.zero_add]
theorem lq_rT {H : Nat → Int} {w : Nat → Nat} {p t v j : Nat} {M : mj_M} (h : rv_G4 H 0 w p M) (ht : t < 8) (hv : v < 9) (e : j = 4 + 9 * t + v) : M.1 (w (p + 3 + t)) v = H j := by
  subst e; rw [← h.2.2.2.2.1 t v ht hv, Nat.zero_add]
def lr_water (H : Nat → Int) (z1 : Int) : Int := if 0 ≤ z1 ∧ z1 ≤ 11 then H (z1 + 76).toNat else -1
set_option maxRecDepth 100000 in
set_option maxHeartbeats 2000000 in
theorem lr_X11_water {G : mj_G} {M : mj_M} {x m tp s kp bc bt kc kr : Nat} {w : Nat → Nat} {z1 : Int} (hI : lp_I G M x m tp s kp bc bt kc kr w) (hz1 : mj_in z1) : mj_R mj_tab 40 155 [.inr (.inr (some x)), .inl z1] G M (fun r _ _ => r = some (.inl (lr_water (M.1 s) z1))) := by
  obtain ⟨hA, hB, p, q, hN, hG6, -⟩ := hI.J
  have hG := hG6.1
  have hG5 := hG6
  obtain ⟨gpl, gna, gta, gba, gwa, gtr, gbr, itr, ibr, p0, p1, p2, p3, rt, rb⟩ := lq_K hA hB hN.pin.1
  have gx := hI.gx
  have gnw := hA.2.2.1
  have b0 := hI.b0
  have bz1 : (-2147483648 : Int) ≤ z1 ∧ z1 < 2147483648 := hz1
  refine ⟨Nat.le_of_ble_eq_true rfl, ?_⟩
  show wz 39 mt_X11_water.2.2.2.2.1 _ mt_X11_water.2.2.2.2.1 [some (.inr (.inr (some x))), some (.inl z1)] [] G M _ _
  refine w_iln rfl ?_
  refine w_cs (st := []) rfl (Nat.le_of_ble_eq_true rfl) (fun kk h => h) ⟨Nat.le_of_ble_eq_true rfl, ?_⟩
  show wz (38) mt_X11_isMonth.2.2.2.2.1 _ mt_X11_isMonth.2.2.2.2.1 [some (.inl z1)] [] _ _ _ _
  refine w_iln rfl ?_
  refine w_iflt (fun c1 => ?_) (fun c1 => ?_)
  · skip
    refine w_ic ?_
    refine w_iret (fun _ => Or.inl rfl) ?_
    refine w_ifeq (fun c2 => ?_) (fun c2 => ?_)
    · skip
      refine w_ic ?_
      exact w_iret (fun q => by cases q) (by show some (Sum.inl _) = some (Sum.inl _); unfold lr_water; split <;> first | rfl | (exfalso; omega))
    · exfalso; omega
  · skip
    refine w_iln rfl ?_
    refine w_bp ?_
    refine w_cmge (fun c3 => ?_) (fun c3 => ?_)
    · skip
      refine w_ic ?_
      refine w_iret (fun _ => Or.inl rfl) ?_
      refine w_ifeq (fun c4 => ?_) (fun c4 => ?_)
      · skip
        refine w_ic ?_
        exact w_iret (fun q => by cases q) (by show some (Sum.inl _) = some (Sum.inl _); unfold lr_water; split <;> first | rfl | (exfalso; omega))
      · exfalso; omega
    · skip
      refine w_ic ?_
      refine w_goto ?_
      refine w_iret (fun _ => Or.inr rfl) ?_
      refine w_ifeq (fun c5 => ?_) (fun c5 => ?_)
      · exfalso; omega
      · skip
        refine w_aln rfl ?_
        refine w_gr gx rfl (by decide) rfl (hB.2.1) ?_
        refine w_gr gnw rfl (by decide) rfl (hN.1) ?_
        refine w_gr gpl rfl (by decide) rfl (p3) ?_
        refine w_iln rfl ?_
        refine w_iald (v := (M.1 s (z1 + 76).toNat)) gwa rfl (by show (0 : Int) ≤ z1; omega) (by show z1 < ((12 : Nat) : Int); omega) (lq_rW hG (by show z1.toNat < 12; omega) (by show (z1 + 76).toNat = 76 + z1.toNat; omega)) ?_
        refine w_goto ?_
        exact w_iret (fun q => by cases q) (by show some (Sum.inl _) = some (Sum.inl _); unfold lr_water; split <;> first | rfl | (exfalso; omega))
set_option maxRecDepth 100000 in
set_option maxHeartbeats 2000000 in
theorem lr_X12_water {G : mj_G} {M : mj_M} {x m tp s kp bc bt kc kr : Nat} {w : Nat → Nat} {z1 : Int} (hI : lp_I G M x m tp s kp bc bt kc kr w) (hz1 : mj_in z1) : mj_R mj_tab 40 256 [.inr (.inr (some m)), .inl z1] G M (fun r _ _ => r = some (.inl (lr_water (M.1 s) z1))) := by
  have gm := hI.gm
  have gs := hI.gs
  have m6 := hI.m6
  have b0 := hI.b0
  have bz1 : (-2147483648 : Int) ≤ z1 ∧ z1 < 2147483648 := hz1
  refine ⟨Nat.le_of_ble_eq_true rfl, ?_⟩
  show wz 39 mt_X12_water.2.2.2.2.1 _ mt_X12_water.2.2.2.2.1 [some (.inr (.inr (some m))), some (.inl z1)] [] G M _ _
  refine w_aln rfl ?_
  refine w_ic ?_
  refine w_pi gm rfl (by decide) rfl (fun q => by cases q) ?_
  refine w_iln rfl ?_
  refine w_cs (st := []) rfl (Nat.le_of_ble_eq_true rfl) (fun kk h => h) ⟨Nat.le_of_ble_eq_true rfl, ?_⟩
  show wz (38) mt_X12_isMonth.2.2.2.2.1 _ mt_X12_isMonth.2.2.2.2.1 [some (.inl z1)] [] _ _ _ _
  refine w_iln rfl ?_
  refine w_ic ?_
  refine w_bp ?_
  refine w_cs (st := []) rfl (Nat.le_of_ble_eq_true rfl) (fun kk h => h) ⟨Nat.le_of_ble_eq_true rfl, ?_⟩
  show wz (37) mt_X12_isIn.2.2.2.2.1 _ mt_X12_isIn.2.2.2.2.1 [some (.inl z1), some (.inl 0), some (.inl 11)] [] _ _ _ _
  refine w_iln rfl ?_
  refine w_iln rfl ?_
  refine w_cmlt (fun c1 => ?_) (fun c1 => ?_)
  · skip
    refine w_ic ?_
    refine w_iret (fun _ => Or.inl rfl) ?_
    refine w_iret (fun _ => Or.inl rfl) ?_
    refine w_ifeq (fun c2 => ?_) (fun c2 => ?_)
    · skip
      refine w_ic ?_
      exact w_iret (fun q => by cases q) (by show some (Sum.inl _) = some (Sum.inl _); unfold lr_water; split <;> first | rfl | (exfalso; omega))
    · exfalso; omega
  · skip
    refine w_iln rfl ?_
    refine w_iln rfl ?_
    refine w_cmgt (fun c3 => ?_) (fun c3 => ?_)
    · skip
      refine w_ic ?_
      refine w_iret (fun _ => Or.inl rfl) ?_
      refine w_iret (fun _ => Or.inl rfl) ?_
      refine w_ifeq (fun c4 => ?_) (fun c4 => ?_)
      · skip
        refine w_ic ?_
        exact w_iret (fun q => by cases q) (by show some (Sum.inl _) = some (Sum.inl _); unfold lr_water; split <;> first | rfl | (exfalso; omega))
      · exfalso; omega
    · skip
      refine w_ic ?_
      refine w_goto ?_
      refine w_iret (fun _ => Or.inr rfl) ?_
      refine w_iret (fun _ => Or.inr rfl) ?_
      refine w_ifeq (fun c5 => ?_) (fun c5 => ?_)
      · exfalso; omega
      · skip
        refine w_aln rfl ?_
        refine w_gr gm rfl (by decide) rfl (m6) ?_
        refine w_bp ?_
        refine w_iln rfl ?_
        refine w_add ⟨by show (-2147483648 : Int) ≤ 76 + z1; omega, by show 76 + z1 < (2147483648 : Int); omega⟩ ?_
        refine w_iald (v := (M.1 s (z1 + 76).toNat)) gs rfl (by show (0 : Int) ≤ 76 + z1; omega) (by show 76 + z1 < ((537 : Nat) : Int); omega) ((hn_n (Or.inl (hn_ne gs gm (by decide)))).trans (congrArg (M.1 s) (by show (76 + z1).toNat = (z1 + 76).toNat; omega))) ?_
        refine w_goto ?_
        exact w_iret (fun q => by cases q) (by show some (Sum.inl _) = some (Sum.inl _); unfold lr_water; split <;> first | rfl | (exfalso; omega))
end
section
/-! ===== told of the reference: its answer and its mark (laid by a program) ===== -/
def lr_tok (H : Nat → Int) (z1 z2 : Int) : Prop := (0 ≤ z1 ∧ z1 < H 0) ∧ (0 ≤ z2 ∧ z2 < 9)
def lr_tov (H : Nat → Int) (z1 z2 : Int) : Int := H (9 * z1 + z2 + 4).toNat
set_option maxRecDepth 100000 in
set_option maxHeartbeats 2000000 in
theorem lr_X12_told {G : mj_G} {M : mj_M} {x m tp s kp bc bt kc kr : Nat} {w : Nat → Nat} {z1 z2 : Int} (hI : lp_I G M x m tp s kp bc bt kc kr w) (hz1 : mj_in z1) (hz2 : mj_in z2) : mj_R mj_tab 40 250 [.inr (.inr (some m)), .inl z1, .inl z2] G M (fun r _ M' => M'.2.1 = M.2.1 ∧ ((¬ lr_tok (M.1 s) z1 z2 ∧ M'.1 m 0 = 1) ∨ (lr_tok (M.1 s) z1 z2 ∧ M'.1 m 0 = 0 ∧ r = some (.inl (lr_tov (M.1 s) z1 z2))))) := by
  have gm := hI.gm
  have gs := hI.gs
  have m6 := hI.m6
  have b0 := hI.b0
  have bz1 : (-2147483648 : Int) ≤ z1 ∧ z1 < 2147483648 := hz1
  have bz2 : (-2147483648 : Int) ≤ z2 ∧ z2 < 2147483648 := hz2
  refine ⟨Nat.le_of_ble_eq_true rfl, ?_⟩
  show wz 39 mt_X12_told.2.2.2.2.1 _ mt_X12_told.2.2.2.2.1 [some (.inr (.inr (some m))), some (.inl z1), some (.inl z2)] [] G M _ _
  refine w_aln rfl ?_
  refine w_aln rfl ?_
  refine w_iln rfl ?_
  refine w_cv (st := [.inr (.inr (some m))]) rfl gm rfl (Nat.le_of_ble_eq_true rfl) (fun kk h => h) ⟨Nat.le_of_ble_eq_true rfl, ?_⟩
  show wz (38) mt_X12_isTown.2.2.2.2.1 _ mt_X12_isTown.2.2.2.2.1 [some (.inr (.inr (some m))), some (.inl z1)] [] _ _ _ _
  refine w_iln rfl ?_
  refine w_ic ?_
  refine w_aln rfl ?_
  refine w_gr gm rfl (by decide) rfl (m6) ?_
  refine w_ic ?_
  refine w_iald (v := (M.1 s 0)) gs rfl (by show (0 : Int) ≤ 0; omega) (by show 0 < ((537 : Nat) : Int); omega) (congrArg (M.1 s) (by show (0 : Int).toNat = 0; omega)) ?_
  refine w_ic ?_
  refine w_sub ⟨by show (-2147483648 : Int) ≤ (M.1 s 0) - 1; omega, by show (M.1 s 0) - 1 < (2147483648 : Int); omega⟩ ?_
  refine w_cs (st := []) rfl (Nat.le_of_ble_eq_true rfl) (fun kk h => h) ⟨Nat.le_of_ble_eq_true rfl, ?_⟩
  show wz (37) mt_X12_isIn.2.2.2.2.1 _ mt_X12_isIn.2.2.2.2.1 [some (.inl z1), some (.inl 0), some (.inl ((M.1 s 0) - 1))] [] _ _ _ _
  refine w_iln rfl ?_
  refine w_iln rfl ?_
  refine w_cmlt (fun c1 => ?_) (fun c1 => ?_)
  · skip
    refine w_ic ?_
    refine w_iret (fun _ => Or.inl rfl) ?_
    refine w_iret (fun _ => Or.inl rfl) ?_
    refine w_ifeq (fun c2 => ?_) (fun c2 => ?_)
    · skip
      refine w_ic ?_
      refine w_goto ?_
      refine w_cv (st := []) rfl gm rfl (Nat.le_of_ble_eq_true rfl) (fun kk h => h) ⟨Nat.le_of_ble_eq_true rfl, ?_⟩
      show wz (38) mt_X12_throwsIf.2.2.2.2.1 _ mt_X12_throwsIf.2.2.2.2.1 [some (.inr (.inr (some m))), some (.inl 1)] [] _ _ _ _
      refine w_aln rfl ?_
      refine w_iln rfl ?_
      refine w_ifeq (fun c3 => ?_) (fun c3 => ?_)
      · exfalso; omega
      · skip
        refine w_ic ?_
        refine w_goto ?_
        refine w_pi gm rfl (by decide) rfl (fun q => by cases q) ?_
        refine w_iln rfl ?_
        refine w_iret (fun _ => Or.inr rfl) ?_
        refine w_ifeq (fun c4 => ?_) (fun c4 => ?_)
        · exfalso; omega
        · skip
          refine w_ic ?_
          refine w_goto ?_
          exact w_iret (fun q => by cases q) ⟨rfl, Or.inl ⟨by unfold lr_tok; omega, hn_s⟩⟩
    · exfalso; omega
  · skip
    refine w_iln rfl ?_
    refine w_iln rfl ?_
    refine w_cmgt (fun c5 => ?_) (fun c5 => ?_)
    · skip
      refine w_ic ?_
      refine w_iret (fun _ => Or.inl rfl) ?_
      refine w_iret (fun _ => Or.inl rfl) ?_
      refine w_ifeq (fun c6 => ?_) (fun c6 => ?_)
      · skip
        refine w_ic ?_
        refine w_goto ?_
        refine w_cv (st := []) rfl gm rfl (Nat.le_of_ble_eq_true rfl) (fun kk h => h) ⟨Nat.le_of_ble_eq_true rfl, ?_⟩
        show wz (38) mt_X12_throwsIf.2.2.2.2.1 _ mt_X12_throwsIf.2.2.2.2.1 [some (.inr (.inr (some m))), some (.inl 1)] [] _ _ _ _
        refine w_aln rfl ?_
        refine w_iln rfl ?_
        refine w_ifeq (fun c7 => ?_) (fun c7 => ?_)
        · exfalso; omega
        · skip
          refine w_ic ?_
          refine w_goto ?_
          refine w_pi gm rfl (by decide) rfl (fun q => by cases q) ?_
          refine w_iln rfl ?_
          refine w_iret (fun _ => Or.inr rfl) ?_
          refine w_ifeq (fun c8 => ?_) (fun c8 => ?_)
          · exfalso; omega
          · skip
            refine w_ic ?_
            refine w_goto ?_
            exact w_iret (fun q => by cases q) ⟨rfl, Or.inl ⟨by unfold lr_tok; omega, hn_s⟩⟩
      · exfalso; omega
    · skip
      refine w_ic ?_
      refine w_goto ?_
      refine w_iret (fun _ => Or.inr rfl) ?_
      refine w_iret (fun _ => Or.inr rfl) ?_
      refine w_ifeq (fun c9 => ?_) (fun c9 => ?_)
      · exfalso; omega
      · skip
        refine w_iln rfl ?_
        refine w_ic ?_
        refine w_bp ?_
        refine w_cs (st := [.inr (.inr (some m))]) rfl (Nat.le_of_ble_eq_true rfl) (fun kk h => h) ⟨Nat.le_of_ble_eq_true rfl, ?_⟩
        show wz (38) mt_X12_isIn.2.2.2.2.1 _ mt_X12_isIn.2.2.2.2.1 [some (.inl z2), some (.inl 0), some (.inl 8)] [] _ _ _ _
        refine w_iln rfl ?_
        refine w_iln rfl ?_
        refine w_cmlt (fun c10 => ?_) (fun c10 => ?_)
        · skip
          refine w_ic ?_
          refine w_iret (fun _ => Or.inl rfl) ?_
          refine w_ifne (fun c11 => ?_) (fun c11 => ?_)
          · exfalso; omega
          · skip
            refine w_ic ?_
            refine w_goto ?_
            refine w_cv (st := []) rfl gm rfl (Nat.le_of_ble_eq_true rfl) (fun kk h => h) ⟨Nat.le_of_ble_eq_true rfl, ?_⟩
            show wz (38) mt_X12_throwsIf.2.2.2.2.1 _ mt_X12_throwsIf.2.2.2.2.1 [some (.inr (.inr (some m))), some (.inl 1)] [] _ _ _ _
            refine w_aln rfl ?_
            refine w_iln rfl ?_
            refine w_ifeq (fun c12 => ?_) (fun c12 => ?_)
            · exfalso; omega
            · skip
              refine w_ic ?_
              refine w_goto ?_
              refine w_pi gm rfl (by decide) rfl (fun q => by cases q) ?_
              refine w_iln rfl ?_
              refine w_iret (fun _ => Or.inr rfl) ?_
              refine w_ifeq (fun c13 => ?_) (fun c13 => ?_)
              · exfalso; omega
              · skip
                refine w_ic ?_
                refine w_goto ?_
                exact w_iret (fun q => by cases q) ⟨rfl, Or.inl ⟨by unfold lr_tok; omega, hn_s⟩⟩
        · skip
          refine w_iln rfl ?_
          refine w_iln rfl ?_
          refine w_cmgt (fun c14 => ?_) (fun c14 => ?_)
          · skip
            refine w_ic ?_
            refine w_iret (fun _ => Or.inl rfl) ?_
            refine w_ifne (fun c15 => ?_) (fun c15 => ?_)
            · exfalso; omega
            · skip
              refine w_ic ?_
              refine w_goto ?_
              refine w_cv (st := []) rfl gm rfl (Nat.le_of_ble_eq_true rfl) (fun kk h => h) ⟨Nat.le_of_ble_eq_true rfl, ?_⟩
              show wz (38) mt_X12_throwsIf.2.2.2.2.1 _ mt_X12_throwsIf.2.2.2.2.1 [some (.inr (.inr (some m))), some (.inl 1)] [] _ _ _ _
              refine w_aln rfl ?_
              refine w_iln rfl ?_
              refine w_ifeq (fun c16 => ?_) (fun c16 => ?_)
              · exfalso; omega
              · skip
                refine w_ic ?_
                refine w_goto ?_
                refine w_pi gm rfl (by decide) rfl (fun q => by cases q) ?_
                refine w_iln rfl ?_
                refine w_iret (fun _ => Or.inr rfl) ?_
                refine w_ifeq (fun c17 => ?_) (fun c17 => ?_)
                · exfalso; omega
                · skip
                  refine w_ic ?_
                  refine w_goto ?_
                  exact w_iret (fun q => by cases q) ⟨rfl, Or.inl ⟨by unfold lr_tok; omega, hn_s⟩⟩
          · skip
            refine w_ic ?_
            refine w_goto ?_
            refine w_iret (fun _ => Or.inr rfl) ?_
            refine w_ifne (fun c18 => ?_) (fun c18 => ?_)
            · skip
              refine w_ic ?_
              refine w_cv (st := []) rfl gm rfl (Nat.le_of_ble_eq_true rfl) (fun kk h => h) ⟨Nat.le_of_ble_eq_true rfl, ?_⟩
              show wz (38) mt_X12_throwsIf.2.2.2.2.1 _ mt_X12_throwsIf.2.2.2.2.1 [some (.inr (.inr (some m))), some (.inl 0)] [] _ _ _ _
              refine w_aln rfl ?_
              refine w_iln rfl ?_
              refine w_ifeq (fun c19 => ?_) (fun c19 => ?_)
              · skip
                refine w_ic ?_
                refine w_pi gm rfl (by decide) rfl (fun q => by cases q) ?_
                refine w_iln rfl ?_
                refine w_iret (fun _ => Or.inl rfl) ?_
                refine w_ifeq (fun c20 => ?_) (fun c20 => ?_)
                · skip
                  refine w_aln rfl ?_
                  refine w_iln rfl ?_
                  refine w_iln rfl ?_
                  refine w_cv (st := []) rfl gm rfl (Nat.le_of_ble_eq_true rfl) (fun kk h => h) ⟨Nat.le_of_ble_eq_true rfl, ?_⟩
                  show wz (38) mt_X12_toldOf.2.2.2.2.1 _ mt_X12_toldOf.2.2.2.2.1 [some (.inr (.inr (some m))), some (.inl z1), some (.inl z2)] [] _ _ _ _
                  refine w_aln rfl ?_
                  refine w_gr gm rfl (by decide) rfl (m6) ?_
                  refine w_ic ?_
                  refine w_bp ?_
                  refine w_iln rfl ?_
                  refine w_mul ⟨by show (-2147483648 : Int) ≤ 9 * z1; omega, by show 9 * z1 < (2147483648 : Int); omega⟩ ?_
                  refine w_add ⟨by show (-2147483648 : Int) ≤ 4 + (9 * z1); omega, by show 4 + (9 * z1) < (2147483648 : Int); omega⟩ ?_
                  refine w_iln rfl ?_
                  refine w_add ⟨by show (-2147483648 : Int) ≤ (4 + (9 * z1)) + z2; omega, by show (4 + (9 * z1)) + z2 < (2147483648 : Int); omega⟩ ?_
                  refine w_iald (v := (M.1 s (9 * z1 + z2 + 4).toNat)) gs rfl (by show (0 : Int) ≤ (4 + (9 * z1)) + z2; omega) (by show (4 + (9 * z1)) + z2 < ((537 : Nat) : Int); omega) ((hn_n (Or.inl (hn_ne gs gm (by decide)))).trans (congrArg (M.1 s) (by show ((4 + (9 * z1)) + z2).toNat = (9 * z1 + z2 + 4).toNat; omega))) ?_
                  refine w_iret (fun q => by cases q) ?_
                  exact w_iret (fun q => by cases q) ⟨rfl, Or.inr ⟨by unfold lr_tok; omega, hn_s, rfl⟩⟩
                · exfalso; omega
              · exfalso; omega
            · exfalso; omega
theorem lr_X12_thrown {G : mj_G} {M : mj_M} {m : Nat} (gm : G m = (1012, 0)) : mj_R mj_tab 40 265 [.inr (.inr (some m))] G M (fun r G' M' => r = some (.inl (M.1 m 0)) ∧ G' = G ∧ M' = M) := by
  refine ⟨Nat.le_of_ble_eq_true rfl, ?_⟩
  show wz 39 mt_X12_thrown.2.2.2.2.1 _ mt_X12_thrown.2.2.2.2.1 [some (.inr (.inr (some m)))] [] G M _ _
  refine w_aln rfl ?_
  refine w_gi gm rfl (by decide) rfl rfl ?_
  exact w_iret (fun q => by cases q) ⟨rfl, rfl, rfl⟩
theorem lr_td {G : mj_G} {M : mj_M} {x m tp s kp bc bt kc kr : Nat} {w : Nat → Nat} (hI : lp_I G M x m tp s kp bc bt kc kr w) {b0 c0 tl q0 : Nat} {a0 a1 z : Int} {M1 : mj_M} (hp : td_Pre G M x b0 c0 tl) (hr : td_R M c0 tl q0 a0 a1 z M1) : (z = 1 ∧ ¬ lr_tok (M.1 s) a0 a1) ∨ (z = 0 ∧ lr_tok (M.1 s) a0 a1 ∧ M1.2.1 q0 0 = (Int32.ofInt (lr_tov (M.1 s) a0 a1)).toInt64) := by
  obtain ⟨hA, hB, p, q, hN, hG6, -⟩ := hI.J
  have hG := hG6.1
  have hG5 := hG6
  obtain ⟨gpl, gna, gta, gba, gwa, gtr, gbr, itr, ibr, p0, p1, p2, p3, rt, rb⟩ := lq_K hA hB hN.pin.1
  have gx := hI.gx
  have gnw := hA.2.2.1
  have b9 := hI.b0
  obtain ⟨-, e1, -, e2, -, -, e3, -, -⟩ := hp
  obtain rfl : w 29 = b0 := Option.some.inj (hB.2.1.symm.trans e1)
  obtain rfl : w p = c0 := Option.some.inj (hN.1.symm.trans e2)
  obtain rfl : w (p + 2) = tl := Option.some.inj (p1.symm.trans e3)
  have h4 : M.1 (w p) 4 = M.1 s 0 := hG.1.symm
  rcases hr with ⟨hz, hn⟩ | ⟨hz, hi, hv⟩
  · refine Or.inl ⟨hz, fun h => ?_⟩
    unfold lr_tok at h
    unfold td_no at hn
    omega
  · unfold td_is at hi
    have ev : td_va M (w (p + 2)) a0 a1 = lr_tov (M.1 s) a0 a1 := by
      unfold td_va lr_tov
      rw [rt a0.toNat (by omega)]
      show M.1 (w (p + 3 + a0.toNat)) a1.toNat = _
      exact lq_rT hG (by omega) (by omega) (by omega)
    exact Or.inr ⟨hz, by unfold lr_tok; omega, by rw [← ev]; exact hv⟩
end
