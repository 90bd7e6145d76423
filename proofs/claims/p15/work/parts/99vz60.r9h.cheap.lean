/-! ===== the PLAIN's number through restore and worth; cheapest, plan as the invariant sees them (laid by a program) ===== -/
theorem r_ch1' {G : mj_G} {M0 : mj_M} {m s : Nat} {Q : mj_P} {d : Nat} {cb sb : Nat} {t : Int} (e : t = M0.1 s 0) (h : wz d mt_X12_cheapest.2.2.2.2.1 Q (mt_X12_cheapest.2.2.2.2.1.drop 15) [some (.inr (.inr (some m))), some (.inl (M0.1 s 0)), none, none, none] [] G M0 cb sb) : wz d mt_X12_cheapest.2.2.2.2.1 Q (mt_X12_cheapest.2.2.2.2.1.drop 15) [some (.inr (.inr (some m))), some (.inl t), none, none, none] [] G M0 cb sb := by
  rw [e]; exact h
section VR
variable {G : mj_G} {M M' : mj_M} {x s m kp kc kr tp ud bc bt : Nat} {w : Nat → Nat} {c z1 : Int} {A : Int → cs_R}
/-- between restore of the class and of the reference -/
def lq_Vr (G : mj_G) (M : mj_M) (x m s kp kc : Nat) (w : Nat → Nat) (c z1 : Int) : Prop := lq_Vg G M x m w ∧ lq_Vc M m c ∧ M.1 x 13 = M.1 m 26 ∧ ∃ A, lq_Vk A M m kp kc w ∧ lq_Vs A M m w ∧ lq_Vp A M m w ∧ ((∀ k : Nat, k < 2 → z1 = (k : Int) → M.1 kc k = 0) → lq_Vn A M m s w) ∧ (∀ k : Nat, k < 2 → z1 = (k : Int) → M.1 kc k ≠ 0 → ∀ p q, lq_N M w p q → M.1 (w p) 9 = M.1 kp (538 * k + 537))
def lq_rV (G : mj_G) (M M' : mj_M) (kc ud : Nat) (w : Nat → Nat) (z1 : Int) : Prop := ∃ p q, lq_N M w p q ∧ ((∀ k : Nat, k < 2 → z1 = (k : Int) → M.1 kc k = 0) → M' = M) ∧ (∀ k : Nat, k < 2 → z1 = (k : Int) → M.1 kc k ≠ 0 → ∃ M1, M' = mj_p0 M1 ud 3 0 ∧ lq_cp G w (lq_ip k) p M M1)
theorem lq_rstV (hI : ab_Inv G M) (gx : G x = (1011, 0)) (x4 : M.2.2 x 4 = some kc) (gkc : G kc = (48102, 2)) (x5 : M.2.2 x 5 = some ud) (gud : G ud = (1009, 0)) (hJ : lq_J G M x s kp kc w) : mj_R mj_tab 40 144 [.inr (.inr (some x)), .inl z1] G M (fun _ G' M' => G' = G ∧ lq_rV G M M' kc ud w z1) := by
  obtain ⟨hA, hB, p, q, hN, h1, h2⟩ := hJ
  refine r_X11_restore4 hI gx hA hB hN x4 gkc x5 gud (fun h0 => ⟨rfl, p, q, hN, fun _ => rfl, fun k hk e hc => ?_⟩) (fun k0 hk0 e0 hc0 M1 cp _ => ⟨rfl, p, q, hN, fun h => absurd (h k0 hk0 e0) hc0, fun k hk e _ => ?_⟩)
  · rcases h0 with h0 | ⟨k', h1, h2, h3⟩
    · exact absurd ⟨by omega, by omega⟩ h0
    · have : k' = k := by omega
      subst this; exact absurd h3 hc
  · obtain rfl : k = k0 := by omega
    exact ⟨M1, rfl, cp⟩
theorem lq_V.re1 (h : lq_V G M x m s kp kc w c) (h8 : 0 ≤ M.1 s 0 ∧ M.1 s 0 ≤ 8) (hk8 : lq_k8 M kp kc) (hA : lq_A G w) (gx : G x = (1011, 0)) (gm : G m = (1012, 0)) (gud : G ud = (1009, 0)) (es : M'.1 s = M.1 s) (ek : M'.1 kp = M.1 kp) (ec : M'.1 kc = M.1 kc) (rV : lq_rV G M M' kc ud w z1) : lq_Vr G M' x m s kp kc w c z1 := by
  obtain ⟨p, q, hN, i0, i1⟩ := rV
  obtain ⟨hg, ⟨c1, c2⟩, hx, A, ⟨a1, a2, a3⟩, hk, hs, hp⟩ := h
  by_cases hz : ∃ k : Nat, k < 2 ∧ z1 = (k : Int) ∧ M.1 kc k ≠ 0
  · obtain ⟨k0, hk0, e0, hc0⟩ := hz
    obtain ⟨M1, e1, cp⟩ := i1 k0 hk0 e0 hc0
    obtain ⟨q1, q2, q3, q4, q5, q6, q7, q8, q9, q0⟩ := cp.V hA hN.pin.1 hg gx gm
    have ne : ∀ {a t n : Nat}, G a = (t, n) → t ≠ 1009 → M'.1 a = M1.1 a := fun g h => by rw [e1]; exact wz_c (hn_ne g gud h)
    have rr : M'.2.2 = M1.2.2 := by rw [e1]; rfl
    have ga := hg.1
    have gr := hg.2.2.2.1
    have gP : ∀ P, P ∈ lq_Ps → M'.1 (w P) = M1.1 (w P) := fun P hP => ne (hA.2.1 P hP).1 (by decide)
    have em : M'.1 m = M.1 m := (ne gm (by decide)).trans q7
    have e125 : M'.1 (w 125) = M.1 (w 125) := (ne ga.g125 (by decide)).trans q8
    have e126 : M'.1 (w 126) = M.1 (w 126) := (ne ga.g126 (by decide)).trans q9
    have hg' : lq_Vg G M' x m w := by
      obtain ⟨g1, g2, g3, g4, g5⟩ := q3
      exact ⟨g1, by unfold cp_BA; rw [rr]; exact g2, by rw [rr]; exact g3, g4, by unfold cp_BR; rw [rr]; exact g5⟩
    have nb : ∀ p' q', lq_N M' w p' q' → p' = p := fun p' q' hn => by
      have hn0 : lq_N M w p' q' := lq_N.back (by rw [rr]; exact q4) (by rw [rr]; exact q5) hn
      have h4 := lq_P4 hn0.pin.1
      have h5 := lq_P4 hN.pin.1
      exact hA.1 _ _ (by omega) (by omega) (Option.some.inj (hn0.1.symm.trans hN.1))
    refine ⟨hg', ⟨by rw [em]; exact c1, by rw [em]; exact c2⟩, by rw [ne gx (by decide), q6, em]; exact hx, A, fun k hk2 h0 => ?_, hs.cg (fun k _ _ => by rw [e125]) e126 (by rw [em]; exact Int.le_refl _) (fun _ _ _ => rfl), hp.cg (fun k _ _ => by rw [e125]) e126 ⟨by rw [em], by rw [em]⟩ ((ne gr.2.2.2 (by decide)).trans q0) (by rw [em]; exact Int.le_refl _) (fun _ _ _ => rfl), fun hno => absurd (by rw [← ec]; exact hno k0 hk0 e0) hc0, fun k hk2 e h0 p' q' hn => ?_⟩
    · rw [ec] at h0
      exact (hk k hk2 h0).cg (by rw [gP _ (lq_ip_in k)]; exact q2 _ (lq_ip_in k) (fun e => hN.pin.2 k e.symm)) (fun j _ => by rw [ek]) (hk8 k hk2 h0) (by rw [em]; exact Int.le_refl _) (fun _ _ _ => rfl)
    · obtain rfl : k = k0 := by omega
      rw [nb p' q' hn, gP _ hN.pin.1, q1, ek]
      exact (hk k hk0 hc0).1
  · have hno : ∀ k : Nat, k < 2 → z1 = (k : Int) → M.1 kc k = 0 := fun k hk2 e => Classical.byContradiction (fun z => hz ⟨k, hk2, e, z⟩)
    have e := i0 hno
    subst e
    exact ⟨hg, ⟨c1, c2⟩, hx, A, hk, hs, hp, fun _ => ⟨a1, a2, a3⟩, fun k hk2 e h0 => absurd (hno k hk2 e) h0⟩
theorem lq_Vr.re2 {ik : Nat} {W : List (Nat × Nat × Nat)} (h : lq_Vr G M x m s kp kc w c z1) (h8 : (∀ k : Nat, k < 2 → z1 = (k : Int) → M.1 kc k = 0) → 0 ≤ M.1 s 0 ∧ M.1 s 0 ≤ 8) (hk8 : lq_k8 M kp kc) (hA : lq_A G w) (gx : G x = (1011, 0)) (gm : G m = (1012, 0)) (gk : G kp = (70100, 1076)) (gc : G kc = (48102, 2)) (f : ab_frm W G M M') (cW : ∀ q ∈ W, q.1 ≠ 70100 ∧ q.1 ≠ 48102 ∧ (q.1 ≠ 1012 ∨ (q.2.2 < 35 ∧ (q.2.2 < 26 ∨ 26 < q.2.1))) ∧ q.1 ≠ 1011 ∧ q.1 ≠ 1007 ∧ q.1 ≠ 1004 ∧ q.1 ≠ 1001 ∧ q.1 ≠ 2100 ∧ q.1 ≠ 5104 ∧ q.1 ≠ 7104 ∧ q.1 ≠ 10104 ∧ q.1 ≠ 61100) (mk : ∀ k, k < 2 → M.1 kc k = M.1 ik k) (rz : ∃ nk ns, rq_rz M M' m kp nk ns ik z1) (o : ((¬ (0 ≤ z1 ∧ z1 ≤ 1) ∨ M.1 ik z1.toNat = 0) ∧ M'.1 s = M.1 s) ∨ (∃ k : Nat, k ≤ 1 ∧ z1 = (k : Int) ∧ M.1 ik k ≠ 0 ∧ (∀ p, p < 537 → M'.1 s p = M.1 kp (538 * k + p)))) : lq_V G M' x m s kp kc w c := by
  obtain ⟨nk, ns, rz1, rz2⟩ := rz
  obtain ⟨hg, ⟨c1, c2⟩, hx, A, hk, hs, hp, hn1, hn2⟩ := h
  have ga := hg.1
  have gr := hg.2.2.2.1
  have hg' : lq_Vg G M' x m w := hg.go gx gm f (fun q hq => by
    have q9 := cW q hq
    exact ⟨by omega, Or.inl q9.2.2.2.1, Or.inl q9.2.2.2.2.2.2.1, q9.2.2.2.2.2.2.2.2.1, q9.2.2.2.2.2.2.2.2.2.1, q9.2.2.2.2.2.2.2.2.2.2.1⟩)
  have fr : ∀ {a t n : Nat} (k : Nat), G a = (t, n) → (∀ q ∈ W, q.1 ≠ t) → M'.1 a k = M.1 a k ∧ M'.2.2 a k = M.2.2 a k := fun k g hh => f _ k (by rw [g]; rintro ⟨r, hr, e1, e2, e3⟩; exact hh r hr e1)
  have em : ∀ k, k = 26 ∨ 35 ≤ k → M'.1 m k = M.1 m k := fun k h1 => (f m k (by rw [gm]; rintro ⟨r, hr, e1, e2, e3⟩; have := (cW r hr).2.2.1; omega)).1
  have n1 := (fr 0 hA.2.2.1 (fun q hq => (cW q hq).2.2.2.2.1)).2
  have n2 := (fr 0 hA.2.2.2.1 (fun q hq => (cW q hq).2.2.2.2.1)).2
  have ex := (fr 13 gx (fun q hq => (cW q hq).2.2.2.1)).1
  have e125 : ∀ k, M'.1 (w 125) k = M.1 (w 125) k := fun k => (fr k ga.g125 (fun q hq => (cW q hq).2.2.2.2.2.2.1)).1
  have e126 : M'.1 (w 126) = M.1 (w 126) := funext fun k => (fr k ga.g126 (fun q hq => (cW q hq).2.2.2.2.2.2.2.1)).1
  have e348 : M'.1 (w 348) = M.1 (w 348) := funext fun k => (fr k gr.2.2.2 (fun q hq => (cW q hq).2.2.2.2.2.2.2.2.2.2.2)).1
  have e9 : ∀ P, P ∈ lq_Ps → M'.1 (w P) 9 = M.1 (w P) 9 := fun P hP => (fr 9 (hA.2.1 P hP).1 (fun q hq => (cW q hq).2.2.2.2.2.1)).1
  have ek : M'.1 kp = M.1 kp := funext fun k => (fr k gk (fun q hq => (cW q hq).1)).1
  have ec : ∀ k, M'.1 kc k = M.1 kc k := fun k => (fr k gc (fun q hq => (cW q hq).2.1)).1
  have m6 := em 26 (Or.inl rfl)
  have hk' : lq_Vk A M' m kp kc w := fun k hk2 h0 => by
    rw [ec] at h0
    exact (hk k hk2 h0).cg (e9 _ (lq_ip_in k)) (fun j _ => by rw [ek]) (hk8 k hk2 h0) (by rw [m6]; exact Int.le_refl _) (fun _ _ _ => rfl)
  have hs' : lq_Vs A M' m w := hs.cg (fun k _ _ => e125 k) e126 (by rw [m6]; exact Int.le_refl _) (fun _ _ _ => rfl)
  have hp' : lq_Vp A M' m w := hp.cg (fun k _ _ => e125 k) e126 ⟨em 39 (Or.inr (by decide)), em 40 (Or.inr (by decide))⟩ e348 (by rw [m6]; exact Int.le_refl _) (fun _ _ _ => rfl)
  refine ⟨hg', ⟨by rw [m6]; exact c1, by rw [m6]; exact c2⟩, by rw [ex, m6]; exact hx, A, ?_, hk', hs', hp'⟩
  rcases o with ⟨oz, oe⟩ | ⟨k0, hk0, e0, hc0, o1⟩
  · have hno : ∀ k : Nat, k < 2 → z1 = (k : Int) → M.1 kc k = 0 := fun k hk2 e => by
      rcases oz with oz | oz
      · omega
      · rw [mk k hk2, show k = z1.toNat by omega]; exact oz
    obtain ⟨a1, a2, a3⟩ := hn1 hno
    obtain ⟨-, -, m5⟩ := rz1 oz
    exact ⟨by rw [m5, m6]; exact a1, fun p q hn => by rw [e9 p (lq_N.back n1 n2 hn).pin.1, m5]; exact a2 p q (lq_N.back n1 n2 hn), by rw [m5, oe]; exact a3⟩
  · have hc1 : M.1 kc k0 ≠ 0 := by rw [mk k0 (by omega)]; exact hc0
    obtain ⟨-, -, m5⟩ := rz2 k0 (by omega) e0 hc0
    obtain ⟨b1, b2, b3⟩ := hk k0 (by omega) hc1
    refine ⟨by rw [m5, m6]; exact b2, fun p q hn => ?_, ?_⟩
    · have hn0 := lq_N.back n1 n2 hn
      rw [e9 p hn0.pin.1, m5]; exact hn2 k0 (by omega) e0 hc1 p q hn0
    · rw [m5, b3]
      exact cs_A_H (fun j hj => (o1 j (by omega)).symm) (hk8 k0 (by omega) hc1)
/-- what worth of the class leaves, raw -/
def lq_wV (G : mj_G) (M M' : mj_M) (w : Nat → Nat) : Prop := ∃ p q, lq_N M w p q ∧ lq_u G w q M M'
theorem lq_worV (hI : ab_Inv G M) (gx : G x = (1011, 0)) (hJ : lq_J G M x s kp kc w) : mj_R mj_tab 40 157 [.inr (.inr (some x)), .inl z1] G M (fun _ G' M' => G' = G ∧ lq_wV G M M' w) := by
  obtain ⟨hA, hB, p, q, hN, h1, h2⟩ := hJ
  exact r_X11_worth4 hI gx hA hB hN (fun z M' u => ⟨rfl, p, q, hN, u⟩)
abbrev lq_Vz (W : List (Nat × Nat × Nat)) : Prop := ∀ q ∈ W, ¬ (q.1 = 51100 ∧ q.2.1 < 88) ∧ q.1 ≠ 70100 ∧ q.1 ≠ 48102 ∧ q.1 ≠ 1012 ∧ q.1 ≠ 1011 ∧ q.1 ≠ 1007 ∧ q.1 ≠ 1001 ∧ q.1 ≠ 2100 ∧ q.1 ≠ 5104 ∧ q.1 ≠ 7104 ∧ q.1 ≠ 10104 ∧ q.1 ≠ 61100
theorem lq_V.wo {W : List (Nat × Nat × Nat)} (h : lq_V G M x m s kp kc w c) (h8 : 0 ≤ M.1 s 0 ∧ M.1 s 0 ≤ 8) (hA : lq_A G w) (gx : G x = (1011, 0)) (gm : G m = (1012, 0)) (gs : G s = (51100, 537)) (gk : G kp = (70100, 1076)) (gc : G kc = (48102, 2)) (f : ab_frm W G M M') (cW : lq_Vz W) (wV : lq_wV G M M' w) : lq_V G M' x m s kp kc w c := by
  obtain ⟨p, q, hN, u1, u2, -⟩ := wV
  have ga := h.1.1
  have gr := h.1.2.2.2.1
  have fr : ∀ {a t n : Nat} (k : Nat), G a = (t, n) → (∀ q ∈ W, q.1 ≠ t) → M'.1 a k = M.1 a k ∧ M'.2.2 a k = M.2.2 a k := fun k g hh => f _ k (by rw [g]; rintro ⟨r, hr, e1, e2, e3⟩; exact hh r hr e1)
  refine h.cg (Int.le_refl _) h8 (h.1.go gx gm f (fun q hq => ?_)) (fr 0 hA.2.2.1 (fun q hq => (cW q hq).2.2.2.2.2.1)).2 (fr 0 hA.2.2.2.1 (fun q hq => (cW q hq).2.2.2.2.2.1)).2 (fr 13 gx (fun q hq => (cW q hq).2.2.2.2.1)).1 (fun k _ => (fr k gm (fun q hq => (cW q hq).2.2.2.1)).1) (fun k _ _ => (fr k ga.g125 (fun q hq => (cW q hq).2.2.2.2.2.2.1)).1) (funext fun k => (fr k ga.g126 (fun q hq => (cW q hq).2.2.2.2.2.2.2.1)).1) (funext fun k => (fr k gr.2.2.2 (fun q hq => (cW q hq).2.2.2.2.2.2.2.2.2.2.2)).1) (fun P hP hne => ?_) (fun j hj => (f s j (by rw [gs]; rintro ⟨r, hr, e1, e2, e3⟩; exact (cW r hr).1 ⟨e1, by omega⟩)).1) (funext fun k => (fr k gk (fun q hq => (cW q hq).2.1)).1) (funext fun k => (fr k gc (fun q hq => (cW q hq).2.2.1)).1)
  · have q9 := cW q hq
    exact ⟨Or.inl q9.2.2.2.1, Or.inl q9.2.2.2.2.1, Or.inl q9.2.2.2.2.2.2.1, q9.2.2.2.2.2.2.2.2.1, q9.2.2.2.2.2.2.2.2.2.1, q9.2.2.2.2.2.2.2.2.2.2.1⟩
  · refine congrFun (u2 _ (by rw [(hA.2.1 P hP).1]; unfold rv_no; decide) (fun j hj e => ?_)) 9
    have h4 := lq_P4 hP
    have h5 := lq_P4 hN.qin.1
    have e := hA.1 _ _ (by omega) (by omega) e
    have := hne p q hN
    omega
/-! cheapest -/
noncomputable def lr_cheapest (H : Nat → Int) : Int := @ite _ (1 ≤ H 0 ∧ H 0 ≤ 3) (Classical.propDecidable _) (match cs_A H with | none => -1 | some a => a.1) (-2)
/-- between cheapest of the class and of the reference -/
def lq_Vm (G : mj_G) (M : mj_M) (x m s kp kc : Nat) (w : Nat → Nat) (c : Int) : Prop := lq_Vg G M x m w ∧ lq_Vc M m c ∧ M.1 x 13 = M.1 m 26 ∧ ∃ A, lq_Vn A M m s w ∧ lq_Vk A M m kp kc w ∧ lq_Vs A M m w ∧ (¬ (1 ≤ M.1 s 0 ∧ M.1 s 0 ≤ 3) ∨ cs_A (M.1 s) = none → lq_Vp A M m w) ∧ (1 ≤ M.1 s 0 ∧ M.1 s 0 ≤ 3 → ∀ v P, cs_A (M.1 s) = some (v, P) → M.1 (w 125) 1 = 1 ∧ M.1 (w 125) 2 = M.1 m 25 ∧ ∀ j, j < 12 → M.1 (w 126) j = P j)
end VR
theorem r_X11_cheapest {G : mj_G} {M : mj_M} {x m s kp kc p q : Nat} {w : Nat → Nat} {c : Int} (h : lq_V G M x m s kp kc w c) (hA : lq_A G w) (hB : lq_B M w x) (hN : lq_N M w p q) (hG5 : rv_G6 (M.1 s) 0 w p M) (hr : rv_r6 (M.1 s) 0) (gx : G x = (1011, 0)) (gm : G m = (1012, 0)) (gs : G s = (51100, 537)) (gk : G kp = (70100, 1076)) (gc : G kc = (48102, 2)) (hk8 : lq_k8 M kp kc) : mj_R mj_tab 40 114 [.inr (.inr (some x))] G M (fun r G' M' => ∃ z, r = some (.inl z) ∧ G' = G ∧ z = lr_cheapest (M.1 s) ∧ M'.1 s = M.1 s ∧ lq_Vm G M' x m s kp kc w c) := by
  obtain ⟨gpl, gna, gta, gba, gwa, gtr, gbr, itr, ibr, p0, p1, p2, p3, rt, rb⟩ := lq_K hA hB hN.pin.1
  have gnw := hA.2.2.1
  have hG := hG5.1
  have b0 := hr.1.1
  obtain ⟨hg, ⟨y1, y2⟩, hx, A, ⟨a1, a2, a3⟩, hk, hs, hp⟩ := id h
  obtain ⟨ga, gb, x6, gr, br⟩ := id hg
  refine ⟨Nat.le_of_ble_eq_true rfl, ?_⟩
  show wz 39 mt_X11_cheapest.2.2.2.2.1 _ mt_X11_cheapest.2.2.2.2.1 [some (.inr (.inr (some x)))] [] G M _ _
  refine w_aln rfl ?_
  refine w_gr gx rfl (by decide) rfl (hB.2.1) ?_
  refine w_gr gnw rfl (by decide) rfl (hN.1) ?_
  refine w_gi gpl rfl (by decide) rfl (hG.1.symm) ?_
  refine w_ifeq (fun c1 => ?_) (fun c1 => ?_)
  · skip
    refine w_bp ?_
    have nt : ¬ (1 ≤ M.1 s 0 ∧ M.1 s 0 ≤ 3) := by omega
    exact w_iret (fun q => by cases q) ⟨_, rfl, rfl, by unfold lr_cheapest; rw [if_neg nt], rfl, hg, ⟨y1, y2⟩, hx, A, ⟨a1, a2, a3⟩, hk, hs, fun _ => hp, fun z => absurd z nt⟩
  · skip
    refine w_aln rfl ?_
    refine w_gr gx rfl (by decide) rfl (hB.2.1) ?_
    refine w_gr gnw rfl (by decide) rfl (hN.1) ?_
    refine w_gi gpl rfl (by decide) rfl (hG.1.symm) ?_
    refine w_ic ?_
    refine w_cmle (fun c2 => ?_) (fun c2 => ?_)
    · skip
      refine w_aln rfl ?_
      refine w_gr gx rfl (by decide) rfl (x6) ?_
      refine w_aln rfl ?_
      refine w_gr gx rfl (by decide) rfl (hB.2.1) ?_
      refine w_gr gnw rfl (by decide) rfl (hN.1) ?_
      have t13 : 1 ≤ M.1 s 0 ∧ M.1 s 0 ≤ 3 := ⟨by omega, by omega⟩
      have hNp := a2 p q hN
      have nw : ∀ {a t n : Nat}, G a = (t, n) → (∀ e ∈ cp_lt, e.2.1 ≠ t) → ∀ i, 125 ≤ i → i ≤ 145 → a ≠ w i := fun g ht i h1 h2 e => ?_
      rotate_left
      · have hm : ∀ i, 125 ≤ i → i ≤ 145 → ∃ e ∈ cp_lt, e.1 = i := by
          intro i h1 h2
          have : ∀ j, j < 21 → ∃ e ∈ cp_lt, e.1 = 125 + j := by decide
          have := this (i - 125) (by omega)
          rwa [show 125 + (i - 125) = i by omega] at this
        obtain ⟨e9, h3, h4⟩ := hm i h1 h2
        have h5 := ga.2 e9 h3
        rw [h4, ← e, g] at h5
        exact ht e9 h3 (congrArg Prod.fst h5).symm
      have nP : ∀ P, P ∈ lq_Ps → ∀ i, 125 ≤ i → i ≤ 145 → w P ≠ w i := fun P hP => nw (hA.2.1 P hP).1 (by decide)
      have fin : ∀ M2 : mj_M, M2.2 = M.2 → (∀ a, (∀ i, 125 ≤ i → i ≤ 145 → a ≠ w i) → M2.1 a = M.1 a) → lq_Vs A M2 m w → (cs_A (M.1 s) = none → lq_Vp A M2 m w) → (∀ v P, cs_A (M.1 s) = some (v, P) → M2.1 (w 125) 1 = 1 ∧ M2.1 (w 125) 2 = M.1 m 25 ∧ ∀ j, j < 12 → M2.1 (w 126) j = P j) → M2.1 s = M.1 s ∧ lq_Vm G M2 x m s kp kc w c := fun M2 f1 f2 g1 g2 g3 => ?_
      rotate_left
      · have es := f2 s (nw gs (by decide))
        have em := f2 m (nw gm (by decide))
        have ex := f2 x (nw gx (by decide))
        have ek := f2 kp (nw gk (by decide))
        have ec := f2 kc (nw gc (by decide))
        refine ⟨es, ⟨ga, by unfold cp_BA; rw [f1]; exact gb, by rw [f1]; exact x6, gr, by unfold cp_BR; rw [f1]; exact br⟩, ⟨by rw [em]; exact y1, by rw [em]; exact y2⟩, by rw [ex, em]; exact hx, A, ⟨by rw [em]; exact a1, fun p1 q1 hn => ?_, by rw [em, es]; exact a3⟩, fun k hk2 h0 => ?_, g1, fun hh => ?_, fun _ v P e => ?_⟩
        · have hn0 : lq_N M w p1 q1 := by unfold lq_N at hn ⊢; rw [← f1]; exact hn
          rw [f2 _ (nP p1 hn0.pin.1), em]; exact a2 p1 q1 hn0
        · rw [ec] at h0
          exact (hk k hk2 h0).cg (by rw [f2 _ (nP _ (lq_ip_in k))]) (fun j _ => by rw [ek]) (hk8 k hk2 h0) (by rw [em]; exact Int.le_refl _) (fun _ _ _ => rfl)
        · rw [es] at hh; exact g2 (hh.resolve_left (fun z => z t13))
        · rw [es] at e; rw [em]; exact g3 v P e
      have eq1 : cs_A (M.1 s) = none → lr_cheapest (M.1 s) = -1 := fun e => by unfold lr_cheapest; rw [if_pos t13, e]
      have eq2 : ∀ v P, cs_A (M.1 s) = some (v, P) → lr_cheapest (M.1 s) = v := fun v P e => by unfold lr_cheapest; rw [if_pos t13, e]
      refine w_cv (st := []) rfl ga.g125 rfl (Nat.le_of_ble_eq_true rfl) (fun kk h => h) (r_X0_solve (d := 25) ga gb hA hB hN hG5 hr.1 t13.1 t13.2 gs (fun e => ?_) (fun e hA9 M2 f1 f2 f3 f4 f5 f6 f7 => ?_) (fun e v P hA9 v0 M2 f1 f2 f3 f4 f5 f6 f7 => ?_))
      · have e2 : M.1 (w 125) 3 = M.1 m 25 := e.symm.trans hNp
        have hs2 := hs.resolve_left (fun z => by omega)
        rw [e2, a3] at hs2
        rcases hs2.2 with ⟨e3, e4⟩ | ⟨v, P, e3, v0, e4, e5, e6, e7⟩
        · exact w_iret (fun q => by cases q) ⟨_, rfl, rfl, by rw [e4, eq1 e3], fin M rfl (fun _ _ => rfl) hs (fun _ => hp) (fun v P e5 => by rw [e3] at e5; cases e5)⟩
        · refine w_iret (fun q => by cases q) ⟨_, rfl, rfl, by rw [e4, eq2 v P e3], fin M rfl (fun _ _ => rfl) hs (fun _ => hp) (fun v2 P2 e8 => ?_)⟩
          rw [e3] at e8; cases e8
          exact ⟨e5, e6, e7⟩
      · refine w_iret (fun q => by cases q) ⟨_, rfl, rfl, (eq1 hA9).symm, fin M2 f1 f2 ?_ (fun _ => ?_) (fun v P e5 => by rw [hA9] at e5; cases e5)⟩
        · unfold lq_Vs
          rw [f2 m (nw gm (by decide)), f3, hNp, a3]
          exact Or.inr ⟨a1, Or.inl ⟨hA9, f4⟩⟩
        · unfold lq_Vp
          rw [f2 m (nw gm (by decide)), f5, f6, f7, f2 (w 348) (nw gr.2.2.2 (by decide))]
          exact hp
      · refine w_iret (fun q => by cases q) ⟨_, rfl, rfl, (eq2 v P hA9).symm, fin M2 f1 f2 ?_ (fun e5 => by rw [hA9] at e5; cases e5) (fun v2 P2 e5 => ?_)⟩
        · unfold lq_Vs
          rw [f2 m (nw gm (by decide)), f3, hNp, a3]
          exact Or.inr ⟨a1, Or.inr ⟨v, P, hA9, v0, f4, f5, by rw [f6, hNp], f7⟩⟩
        · rw [hA9] at e5; cases e5
          exact ⟨f5, by rw [f6, hNp], f7⟩
    · skip
      refine w_bp ?_
      have nt : ¬ (1 ≤ M.1 s 0 ∧ M.1 s 0 ≤ 3) := by omega
      exact w_iret (fun q => by cases q) ⟨_, rfl, rfl, by unfold lr_cheapest; rw [if_neg nt], rfl, hg, ⟨y1, y2⟩, hx, A, ⟨a1, a2, a3⟩, hk, hs, fun _ => hp, fun z => absurd z nt⟩
theorem r_X12_cheapest {G : mj_G} {M : mj_M} {x m s kp kc : Nat} {w : Nat → Nat} {c : Int} (h : lq_Vm G M x m s kp kc w c) (hA : lq_A G w) (h8 : rv_r4 (M.1 s) 0) (gx : G x = (1011, 0)) (gm : G m = (1012, 0)) (gs : G s = (51100, 537)) (gk : G kp = (70100, 1076)) (gc : G kc = (48102, 2)) (hk8 : lq_k8 M kp kc) (m6 : M.2.2 m 6 = some s) : mj_R mj_tab 40 173 [.inr (.inr (some m))] G M (fun r G' M' => ∃ z, r = some (.inl z) ∧ G' = G ∧ z = lr_cheapest (M.1 s) ∧ lq_V G M' x m s kp kc w c) := by
  have b0 := h8.1
  obtain ⟨hg, ⟨y1, y2⟩, hx, A, ⟨a1, a2, a3⟩, hk, hs, hp1, hp2⟩ := id h
  obtain ⟨ga, gb, x6, gr, br⟩ := id hg
  have nP : ∀ {a t n : Nat}, G a = (t, n) → t ≠ 58100 → t ≠ 59100 → t ≠ 60100 → t ≠ 61100 → cr_ne w a := fun g n1 n2 n3 n4 => ⟨hn_ne g gr.1 n1, hn_ne g gr.2.1 n2, hn_ne g gr.2.2.1 n3, hn_ne g gr.2.2.2 n4⟩
  have fin : ∀ M2 : mj_M, M2.2 = M.2 → (∀ a, a ≠ m → cr_ne w a → M2.1 a = M.1 a) → M2.1 m 25 = M.1 m 25 → M2.1 m 26 = M.1 m 26 → lq_Vp A M2 m w → lq_V G M2 x m s kp kc w c := fun M2 f1 f2 f25 f26 g => by
    have es := f2 s (hn_ne gs gm (by decide)) (nP gs (by decide) (by decide) (by decide) (by decide))
    have ex := f2 x (hn_ne gx gm (by decide)) (nP gx (by decide) (by decide) (by decide) (by decide))
    have ek := f2 kp (hn_ne gk gm (by decide)) (nP gk (by decide) (by decide) (by decide) (by decide))
    have ec := f2 kc (hn_ne gc gm (by decide)) (nP gc (by decide) (by decide) (by decide) (by decide))
    have e125 := f2 (w 125) (hn_ne ga.g125 gm (by decide)) (nP ga.g125 (by decide) (by decide) (by decide) (by decide))
    have e126 := f2 (w 126) (hn_ne ga.g126 gm (by decide)) (nP ga.g126 (by decide) (by decide) (by decide) (by decide))
    have eP : ∀ P, P ∈ lq_Ps → M2.1 (w P) = M.1 (w P) := fun P hP => f2 _ (hn_ne (hA.2.1 P hP).1 gm (by decide)) (nP (hA.2.1 P hP).1 (by decide) (by decide) (by decide) (by decide))
    refine ⟨⟨ga, by unfold cp_BA; rw [f1]; exact gb, by rw [f1]; exact x6, gr, by unfold cp_BR; rw [f1]; exact br⟩, ⟨by rw [f26]; exact y1, by rw [f26]; exact y2⟩, by rw [ex, f26]; exact hx, A, ⟨by rw [f25, f26]; exact a1, fun p1 q1 hn => ?_, by rw [f25, es]; exact a3⟩, fun k hk2 h0 => ?_, hs.cg (fun k _ _ => by rw [e125]) e126 (by rw [f26]; exact Int.le_refl _) (fun _ _ _ => rfl), g⟩
    · have hn0 : lq_N M w p1 q1 := by unfold lq_N at hn ⊢; rw [← f1]; exact hn
      rw [eP p1 hn0.pin.1, f25]; exact a2 p1 q1 hn0
    · rw [ec] at h0
      exact (hk k hk2 h0).cg (by rw [eP _ (lq_ip_in k)]) (fun j _ => by rw [ek]) (hk8 k hk2 h0) (by rw [f26]; exact Int.le_refl _) (fun _ _ _ => rfl)
  refine ⟨Nat.le_of_ble_eq_true rfl, ?_⟩
  show wz 39 mt_X12_cheapest.2.2.2.2.1 _ mt_X12_cheapest.2.2.2.2.1 [some (.inr (.inr (some m))), none, none, none, none] [] G M _ _
  refine w_aln rfl ?_
  refine w_ic ?_
  refine w_pi gm rfl (by decide) rfl (fun q => by cases q) ?_
  refine w_aln rfl ?_
  refine w_gr gm rfl (by decide) rfl (m6) ?_
  refine w_ic ?_
  refine w_iald (v := (M.1 s 0)) gs rfl (by show (0 : Int) ≤ 0; omega) (by show 0 < ((537 : Nat) : Int); omega) ((hn_n (Or.inl (hn_ne gs gm (by decide)))).trans (congrArg (M.1 s) (by show (0 : Int).toNat = 0; omega))) ?_
  refine w_isn ?_
  show wz _ _ _ _ [some (.inr (.inr (some m))), some (.inl (M.1 s 0)), none, none, none] _ _ _ _ _
  refine w_iln rfl ?_
  refine w_ic ?_
  refine w_ic ?_
  refine w_cs (st := []) rfl (Nat.le_of_ble_eq_true rfl) (fun kk h => h) ⟨Nat.le_of_ble_eq_true rfl, ?_⟩
  show wz (38) mt_X12_isIn.2.2.2.2.1 _ mt_X12_isIn.2.2.2.2.1 [some (.inl (M.1 s 0)), some (.inl 1), some (.inl 3)] [] _ _ _ _
  refine w_iln rfl ?_
  refine w_iln rfl ?_
  refine w_cmlt (fun c1 => ?_) (fun c1 => ?_)
  · skip
    refine w_ic ?_
    refine w_iret (fun _ => Or.inl rfl) ?_
    refine w_ifne (fun c2 => ?_) (fun c2 => ?_)
    · exfalso; omega
    · skip
      refine w_bp ?_
      have nt : ¬ (1 ≤ M.1 s 0 ∧ M.1 s 0 ≤ 3) := by omega
      refine w_iret (fun q => by cases q) ⟨_, rfl, rfl, by unfold lr_cheapest; rw [if_neg nt], fin _ rfl (fun a h1 _ => wz_c h1) (hn_n (Or.inr (by decide))) (hn_n (Or.inr (by decide))) ?_⟩
      exact (hp1 (Or.inl nt)).cg (fun k _ _ => congrFun (wz_c (hn_ne ga.g125 gm (by decide))) k) (wz_c (hn_ne ga.g126 gm (by decide))) ⟨hn_n (Or.inr (by decide)), hn_n (Or.inr (by decide))⟩ (wz_c (hn_ne gr.2.2.2 gm (by decide))) (by rw [hn_n (Or.inr (by decide))]; exact Int.le_refl _) (fun _ _ _ => rfl)
  · skip
    refine w_iln rfl ?_
    refine w_iln rfl ?_
    refine w_cmgt (fun c3 => ?_) (fun c3 => ?_)
    · skip
      refine w_ic ?_
      refine w_iret (fun _ => Or.inl rfl) ?_
      refine w_ifne (fun c4 => ?_) (fun c4 => ?_)
      · exfalso; omega
      · skip
        refine w_bp ?_
        have nt : ¬ (1 ≤ M.1 s 0 ∧ M.1 s 0 ≤ 3) := by omega
        refine w_iret (fun q => by cases q) ⟨_, rfl, rfl, by unfold lr_cheapest; rw [if_neg nt], fin _ rfl (fun a h1 _ => wz_c h1) (hn_n (Or.inr (by decide))) (hn_n (Or.inr (by decide))) ?_⟩
        exact (hp1 (Or.inl nt)).cg (fun k _ _ => congrFun (wz_c (hn_ne ga.g125 gm (by decide))) k) (wz_c (hn_ne ga.g126 gm (by decide))) ⟨hn_n (Or.inr (by decide)), hn_n (Or.inr (by decide))⟩ (wz_c (hn_ne gr.2.2.2 gm (by decide))) (by rw [hn_n (Or.inr (by decide))]; exact Int.le_refl _) (fun _ _ _ => rfl)
    · skip
      refine w_ic ?_
      refine w_goto ?_
      refine w_iret (fun _ => Or.inr rfl) ?_
      refine w_ifne (fun c5 => ?_) (fun c5 => ?_)
      · skip
        have t13 : 1 ≤ M.1 s 0 ∧ M.1 s 0 ≤ 3 := ⟨by omega, by omega⟩
        have em : ∀ a, a ≠ m → (mj_p0 M m 0 0).1 a = M.1 a := fun a ha => wz_c ha
        have mm : ∀ k, k ≠ 0 → (mj_p0 M m 0 0).1 m k = M.1 m k := fun k hk => hn_n (Or.inr hk)
        have es : (mj_p0 M m 0 0).1 s = M.1 s := em s (hn_ne gs gm (by decide))
        have nm : cr_ne w m := nP gm (by decide) (by decide) (by decide) (by decide)
        have n348 : w 348 ≠ m := hn_ne gr.2.2.2 gm (by decide)
        have k1 : M.1 s 0 = (mj_p0 M m 0 0).1 s 0 := by rw [es]
        refine r_ch1' k1 (r_ch1 (M0 := mj_p0 M m 0 0) (d := 36) (s := s) gr br gm gs m6 (by rw [es]; exact h8) (by rw [es]; exact t13.1) (by rw [es]; exact t13.2) (fun hA9 M2 TR CO HA PL hC hp => ?_) (fun v P hA9 v0 v9 M2 TR CO HA PL hC hp => ?_))
        · rw [es] at hA9
          refine ⟨_, rfl, rfl, by unfold lr_cheapest; rw [if_pos t13, hA9], fin M2 hC.1 (fun a h1 h2 => (hC.2.1 a h2).trans (em a h1)) (by rw [hC.2.1 m nm, mm 25 (by decide)]) (by rw [hC.2.1 m nm, mm 26 (by decide)]) ?_⟩
          have o1 : ∀ {a t n : Nat}, G a = (t, n) → t ≠ 1012 → t ≠ 58100 → t ≠ 59100 → t ≠ 60100 → t ≠ 61100 → M2.1 a = M.1 a := fun g n0 n1 n2 n3 n4 => (hC.2.1 _ (nP g n1 n2 n3 n4)).trans (em _ (hn_ne g gm n0))
          obtain ⟨b1, b2⟩ := hp1 (Or.inr hA9)
          unfold lq_Vp
          rw [o1 ga.g125 (by decide) (by decide) (by decide) (by decide) (by decide), o1 ga.g126 (by decide) (by decide) (by decide) (by decide) (by decide), hC.2.1 m nm, mm 39 (by decide), mm 40 (by decide)]
          have w348 : ∀ j, j < 12 → M2.1 (w 348) j = M.1 (w 348) j := fun j hj => (hC.2.2.2.2.2 j hj).trans ((hp j hj).trans (congrFun (em _ n348) j))
          rw [mm 26 (by decide)]
          refine ⟨b1, fun z => ?_⟩
          obtain ⟨z1, z2, z3, v2, P2, z4, z5⟩ := b2 z
          exact ⟨z1, fun j hj => (z2 j hj).trans (w348 j hj).symm, z3, v2, P2, z4, fun j hj => (w348 j hj).trans (z5 j hj)⟩
        · rw [es] at hA9
          obtain ⟨b1, b2, b3⟩ := hp2 t13 v P hA9
          have q0 : ∀ a, a ≠ m → (mj_p0 (mj_p0 M2 m 39 1) m 40 ((mj_p0 M m 0 0).1 m 25)).1 a = M2.1 a := fun a ha => (wz_c ha).trans (wz_c ha)
          have o1 : ∀ {a t n : Nat}, G a = (t, n) → t ≠ 1012 → t ≠ 58100 → t ≠ 59100 → t ≠ 60100 → t ≠ 61100 → (mj_p0 (mj_p0 M2 m 39 1) m 40 ((mj_p0 M m 0 0).1 m 25)).1 a = M.1 a := fun g n0 n1 n2 n3 n4 => (q0 _ (hn_ne g gm n0)).trans ((hC.2.1 _ (nP g n1 n2 n3 n4)).trans (em _ (hn_ne g gm n0)))
          have q1 : ∀ k, k ≠ 0 → k ≠ 39 → k ≠ 40 → (mj_p0 (mj_p0 M2 m 39 1) m 40 ((mj_p0 M m 0 0).1 m 25)).1 m k = M.1 m k := fun k h0 h1 h2 => (hn_n (Or.inr h2)).trans ((hn_n (Or.inr h1)).trans ((congrFun (hC.2.1 m nm) k).trans (mm k h0)))
          refine ⟨_, rfl, rfl, by unfold lr_cheapest; rw [if_pos t13, hA9], fin _ hC.1 (fun a h1 h2 => (q0 a h1).trans ((hC.2.1 a h2).trans (em a h1))) (q1 25 (by decide) (by decide) (by decide)) (q1 26 (by decide) (by decide) (by decide)) ?_⟩
          unfold lq_Vp
          rw [o1 ga.g125 (by decide) (by decide) (by decide) (by decide) (by decide), o1 ga.g126 (by decide) (by decide) (by decide) (by decide) (by decide)]
          have w348 : ∀ j, j < 12 → (mj_p0 (mj_p0 M2 m 39 1) m 40 ((mj_p0 M m 0 0).1 m 25)).1 (w 348) j = P j := fun j hj => (congrFun (q0 _ n348) j).trans ((hC.2.2.2.2.2 j hj).trans (hp j hj))
          have w40 : (mj_p0 (mj_p0 M2 m 39 1) m 40 ((mj_p0 M m 0 0).1 m 25)).1 m 40 = M.1 m 25 := hn_s.trans (mm 25 (by decide))
          rw [w40, q1 26 (by decide) (by decide) (by decide)]
          exact ⟨b1.trans ((hn_n (Or.inr (by decide))).trans hn_s).symm, fun _ => ⟨b2, fun j hj => (b3 j hj).trans (w348 j hj).symm, a1, v, P, a3.trans hA9, w348⟩⟩
      · exfalso; omega
/-- what plan tells: by the reference's marks and rows -/
def lr_plan (Mm PL : Nat → Int) (z1 : Int) : Int := if Mm 39 ≠ 0 ∧ 0 ≤ z1 ∧ z1 ≤ 11 then PL z1.toNat else -1
theorem lr_X11_plan {G : mj_G} {M : mj_M} {x m s kp kc : Nat} {w : Nat → Nat} {c : Int} {z1 : Int} (h : lq_V G M x m s kp kc w c) (gx : G x = (1011, 0)) (gm : G m = (1012, 0)) (hz1 : mj_in z1) : mj_R mj_tab 40 139 [.inr (.inr (some x)), .inl z1] G M (fun r _ _ => r = some (.inl (lr_plan (M.1 m) (M.1 (w 348)) z1))) := by
  obtain ⟨⟨ga, gb, x6, gr, br⟩, -, -, A, -, -, -, hp⟩ := h
  have bz1 : (-2147483648 : Int) ≤ z1 ∧ z1 < 2147483648 := hz1
  refine ⟨Nat.le_of_ble_eq_true rfl, ?_⟩
  show wz 39 mt_X11_plan.2.2.2.2.1 _ mt_X11_plan.2.2.2.2.1 [some (.inr (.inr (some x))), some (.inl z1)] [] G M _ _
  refine w_iln rfl ?_
  refine w_cs (st := []) rfl (Nat.le_of_ble_eq_true rfl) (fun kk h => h) ⟨Nat.le_of_ble_eq_true rfl, ?_⟩
  show wz (38) mt_X11_isMonth.2.2.2.2.1 _ mt_X11_isMonth.2.2.2.2.1 [some (.inl z1)] [] _ _ _ _
  refine w_iln rfl ?_
  refine w_iflt (fun c1 => ?_) (fun c1 => ?_)
  · skip
    refine w_ic ?_
    refine w_iret (fun _ => Or.inl rfl) ?_
    refine w_ifeq (fun c2 => ?_) (fun c2 => ?_)
    · skip
      refine w_ic ?_
      exact w_iret (fun q => by cases q) (by show some (Sum.inl _) = some (Sum.inl _); unfold lr_plan; rw [if_neg (by omega)])
    · exfalso; omega
  · skip
    refine w_iln rfl ?_
    refine w_bp ?_
    refine w_cmge (fun c3 => ?_) (fun c3 => ?_)
    · skip
      refine w_ic ?_
      refine w_iret (fun _ => Or.inl rfl) ?_
      refine w_ifeq (fun c4 => ?_) (fun c4 => ?_)
      · skip
        refine w_ic ?_
        exact w_iret (fun q => by cases q) (by show some (Sum.inl _) = some (Sum.inl _); unfold lr_plan; rw [if_neg (by omega)])
      · exfalso; omega
    · skip
      refine w_ic ?_
      refine w_goto ?_
      refine w_iret (fun _ => Or.inr rfl) ?_
      refine w_ifeq (fun c5 => ?_) (fun c5 => ?_)
      · exfalso; omega
      · skip
        refine w_aln rfl ?_
        refine w_gr gx rfl (by decide) rfl (x6) ?_
        refine w_gi ga.g125 rfl (by decide) rfl (hp.1) ?_
        refine w_ifeq (fun c6 => ?_) (fun c6 => ?_)
        · skip
          refine w_ic ?_
          exact w_iret (fun q => by cases q) (by show some (Sum.inl _) = some (Sum.inl _); unfold lr_plan; rw [if_neg (by omega)])
        · skip
          refine w_aln rfl ?_
          refine w_gr gx rfl (by decide) rfl (x6) ?_
          refine w_gr ga.g125 rfl (by decide) rfl (gb.r125_0) ?_
          refine w_iln rfl ?_
          refine w_iald (v := (M.1 (w 348) z1.toNat)) ga.g126 rfl (by show (0 : Int) ≤ z1; omega) (by show z1 < ((12 : Nat) : Int); omega) ((hp.2 (by rw [hp.1]; omega)).2.1 _ (by show z1.toNat < 12; omega)) ?_
          refine w_goto ?_
          exact w_iret (fun q => by cases q) (by show some (Sum.inl _) = some (Sum.inl _); unfold lr_plan; rw [if_pos (by omega)])
theorem lr_X12_plan {G : mj_G} {M : mj_M} {x m s kp kc : Nat} {w : Nat → Nat} {c : Int} {z1 : Int} (h : lq_V G M x m s kp kc w c) (gx : G x = (1011, 0)) (gm : G m = (1012, 0)) (hz1 : mj_in z1) : mj_R mj_tab 40 227 [.inr (.inr (some m)), .inl z1] G M (fun r _ _ => r = some (.inl (lr_plan (M.1 m) (M.1 (w 348)) z1))) := by
  obtain ⟨⟨ga, gb, x6, gr, br⟩, -, -, A, -, -, -, hp⟩ := h
  have bz1 : (-2147483648 : Int) ≤ z1 ∧ z1 < 2147483648 := hz1
  refine ⟨Nat.le_of_ble_eq_true rfl, ?_⟩
  show wz 39 mt_X12_plan.2.2.2.2.1 _ mt_X12_plan.2.2.2.2.1 [some (.inr (.inr (some m))), some (.inl z1)] [] G M _ _
  refine w_aln rfl ?_
  refine w_ic ?_
  refine w_pi gm rfl (by decide) rfl (fun q => by cases q) ?_
  refine w_aln rfl ?_
  refine w_gi gm rfl (by decide) rfl (hn_n (Or.inr (by decide))) ?_
  refine w_ifeq (fun c1 => ?_) (fun c1 => ?_)
  · skip
    refine w_ic ?_
    exact w_iret (fun q => by cases q) (by show some (Sum.inl _) = some (Sum.inl _); unfold lr_plan; rw [if_neg (by omega)])
  · skip
    refine w_iln rfl ?_
    refine w_cs (st := []) rfl (Nat.le_of_ble_eq_true rfl) (fun kk h => h) ⟨Nat.le_of_ble_eq_true rfl, ?_⟩
    show wz (38) mt_X12_isMonth.2.2.2.2.1 _ mt_X12_isMonth.2.2.2.2.1 [some (.inl z1)] [] _ _ _ _
    refine w_iln rfl ?_
    refine w_ic ?_
    refine w_bp ?_
    refine w_cs (st := []) rfl (Nat.le_of_ble_eq_true rfl) (fun kk h => h) ⟨Nat.le_of_ble_eq_true rfl, ?_⟩
    show wz (37) mt_X12_isIn.2.2.2.2.1 _ mt_X12_isIn.2.2.2.2.1 [some (.inl z1), some (.inl 0), some (.inl 11)] [] _ _ _ _
    refine w_iln rfl ?_
    refine w_iln rfl ?_
    refine w_cmlt (fun c2 => ?_) (fun c2 => ?_)
    · skip
      refine w_ic ?_
      refine w_iret (fun _ => Or.inl rfl) ?_
      refine w_iret (fun _ => Or.inl rfl) ?_
      refine w_ifeq (fun c3 => ?_) (fun c3 => ?_)
      · skip
        refine w_ic ?_
        exact w_iret (fun q => by cases q) (by show some (Sum.inl _) = some (Sum.inl _); unfold lr_plan; rw [if_neg (by omega)])
      · exfalso; omega
    · skip
      refine w_iln rfl ?_
      refine w_iln rfl ?_
      refine w_cmgt (fun c4 => ?_) (fun c4 => ?_)
      · skip
        refine w_ic ?_
        refine w_iret (fun _ => Or.inl rfl) ?_
        refine w_iret (fun _ => Or.inl rfl) ?_
        refine w_ifeq (fun c5 => ?_) (fun c5 => ?_)
        · skip
          refine w_ic ?_
          exact w_iret (fun q => by cases q) (by show some (Sum.inl _) = some (Sum.inl _); unfold lr_plan; rw [if_neg (by omega)])
        · exfalso; omega
      · skip
        refine w_ic ?_
        refine w_goto ?_
        refine w_iret (fun _ => Or.inr rfl) ?_
        refine w_iret (fun _ => Or.inr rfl) ?_
        refine w_ifeq (fun c6 => ?_) (fun c6 => ?_)
        · exfalso; omega
        · skip
          refine w_aln rfl ?_
          refine w_gr gm rfl (by decide) rfl (br.2.2.2) ?_
          refine w_iln rfl ?_
          refine w_iald (v := (M.1 (w 348) z1.toNat)) gr.2.2.2 rfl (by show (0 : Int) ≤ z1; omega) (by show z1 < ((12 : Nat) : Int); omega) (hn_n (Or.inl (hn_ne gr.2.2.2 gm (by decide)))) ?_
          refine w_goto ?_
          exact w_iret (fun q => by cases q) (by show some (Sum.inl _) = some (Sum.inl _); unfold lr_plan; rw [if_pos (by omega)])
