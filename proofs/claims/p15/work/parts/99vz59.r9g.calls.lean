/-! ===== the PLAIN's number through the calls that change it; cheapest as the invariant sees it (laid by a program) ===== -/
section VP
variable {G : mj_G} {M M' : mj_M} {x s m kp kc tp ud : Nat} {w : Nat → Nat} {c z1 : Int} {A : Int → cs_R}
theorem cs_inc {a : Int} (h0 : 0 ≤ a) (h9 : a ≤ 1000000) : (Int32.ofInt a + Int32.ofInt 1).toInt = a + 1 := by
  rw [← Int32.ofInt_add]; exact mj_ti ⟨by omega, by omega⟩
theorem lq_Vg.rf (h : lq_Vg G M x m w) (hA : lq_A G w) (gx : G x = (1011, 0)) (gm : G m = (1012, 0)) (gtp : G tp = (1008, 0)) (r : ∀ a j, ¬ (a = tp ∧ j = 9) → ¬ (a = w 29 ∧ j = 0) → ¬ (a = w 74 ∧ j = 0) → M'.2.2 a j = M.2.2 a j) : lq_Vg G M' x m w := by
  obtain ⟨ga, gb, x6, gr, b1, b2, b3, b4⟩ := h
  have g29 := hA.2.2.1
  have g74 := hA.2.2.2.1
  have rr : ∀ {a t n : Nat} (j : Nat), G a = (t, n) → t ≠ 1008 → t ≠ 1007 → M'.2.2 a j = M.2.2 a j := fun j g h1 h2 => r _ j (fun e => hn_ne g gtp h1 e.1) (fun e => hn_ne g g29 h2 e.1) (fun e => hn_ne g g74 h2 e.1)
  refine ⟨ga, fun e he => ?_, (rr 6 gx (by decide) (by decide)).trans x6, gr, (rr 35 gm (by decide) (by decide)).trans b1, (rr 36 gm (by decide) (by decide)).trans b2, (rr 37 gm (by decide) (by decide)).trans b3, (rr 38 gm (by decide) (by decide)).trans b4⟩
  have hl : e.1 = 125 ∨ e.1 = 129 ∨ e.1 = 133 ∨ e.1 = 138 := by
    revert e
    decide
  rcases hl with h1 | h1 | h1 | h1
  · exact (rr e.2.1 (show G (w e.1) = (1001, 0) by rw [h1]; exact ga.g125) (by decide) (by decide)).trans (gb e he)
  · exact (rr e.2.1 (show G (w e.1) = (5104, 3) by rw [h1]; exact ga.g129) (by decide) (by decide)).trans (gb e he)
  · exact (rr e.2.1 (show G (w e.1) = (7104, 3) by rw [h1]; exact ga.g133) (by decide) (by decide)).trans (gb e he)
  · exact (rr e.2.1 (show G (w e.1) = (10104, 3) by rw [h1]; exact ga.g138) (by decide) (by decide)).trans (gb e he)
/-- between plain of the class and of the reference -/
def lq_Vq (G : mj_G) (M : mj_M) (x m s kp kc : Nat) (w : Nat → Nat) (c : Int) (y : rv_Om) : Prop := lq_Vg G M x m w ∧ lq_Vc M m c ∧ ∃ A, lq_Vk A M m kp kc w ∧ lq_Vs A M m w ∧ lq_Vp A M m w ∧ (∀ e, y = .inl e → M.1 x 13 = M.1 m 26 ∧ lq_Vn A M m s w) ∧ (∀ e, y = .inr e → M.1 x 13 = M.1 m 26 + 1 ∧ ∀ p q, lq_N M w p q → M.1 (w p) 9 = M.1 m 26 + 1)
abbrev lq_k8 (M : mj_M) (kp kc : Nat) : Prop := ∀ k, k < 2 → M.1 kc k ≠ 0 → 0 ≤ M.1 kp (538 * k) ∧ M.1 kp (538 * k) ≤ 8
set_option maxRecDepth 100000 in
theorem lq_V.pl1 {y : rv_Om} (h : lq_V G M x m s kp kc w c) (hc9 : c ≤ 1000000) (h8 : 0 ≤ M.1 s 0 ∧ M.1 s 0 ≤ 8) (hk8 : lq_k8 M kp kc) (hA : lq_A G w) (gx : G x = (1011, 0)) (gm : G m = (1012, 0)) (gtp : G tp = (1008, 0)) (gs : G s = (51100, 537)) (gk : G kp = (70100, 1076)) (gc : G kc = (48102, 2)) (py : lq_py G M M' x tp w y) : lq_Vq G M' x m s kp kc w c y := by
  obtain ⟨p, q, oa, dl, fa, sa, ca, se, ye, ud, hN, goa, hX, hF, hO⟩ := py
  obtain ⟨⟨-, g74, g29, gse, gye, gud, gdl, gfa, gsa, gca, -⟩, -⟩ := hX
  obtain ⟨gq, gqn, -, -, gqw, gqt, gqb⟩ := hA.2.1 q hN.qin.1
  have ga := h.1.1
  have gr := h.1.2.2.2.1
  have nip : ∀ P, P ∈ lq_Ps → P ≠ q → w P ≠ w q := fun P hP hne e => by
    have h4 := lq_P4 hP
    have h5 := lq_P4 hN.qin.1
    exact hne (hA.1 _ _ (by omega) (by omega) e)
  rcases y with e | ⟨PL, WA, OA, TO, BI, nm, r⟩
  · obtain ⟨⟨f2, fl, f1⟩, f13⟩ := hF e rfl
    have tg : ∀ {a t u : Nat}, G a = (t, u) → t ≠ 1004 → t ≠ 26100 → t ≠ 28100 → t ≠ 29100 → t ≠ 30100 → t ≠ 1011 → t ≠ 1008 → M'.1 a = M.1 a := fun ga n1 n4 n6 n7 n8 n9 n10 => f1 _ (hn_ne ga gx n9) (hn_ne ga gtp n10) (hn_ne ga gq n1) (hn_ne ga gqw n7) (hn_ne ga goa n8) (fun t ht => hn_ne ga (gqt t ht) n4) (fun t ht => hn_ne ga (gqb t ht) n6)
    have tp_ : ∀ P, P ∈ lq_Ps → P ≠ q → M'.1 (w P) = M.1 (w P) := fun P hP hne => by
      have g := (hA.2.1 P hP).1
      exact f1 _ (hn_ne g gx (by decide)) (hn_ne g gtp (by decide)) (nip P hP hne) (hn_ne g gqw (by decide)) (hn_ne g goa (by decide)) (fun t ht => hn_ne g (gqt t ht) (by decide)) (fun t ht => hn_ne g (gqb t ht) (by decide))
    obtain ⟨v1, v2, v3, A, v4, v5, v6, v7⟩ := h.cg (c' := c) (Int.le_refl _) h8 (h.1.rf hA gx gm gtp (fun a j h1 _ _ => f2 a j h1)) (f2 _ _ (fun e => hn_ne g29 gtp (by decide) e.1)) (f2 _ _ (fun e => hn_ne g74 gtp (by decide) e.1)) f13 (fun k _ => congrFun (tg gm (by decide) (by decide) (by decide) (by decide) (by decide) (by decide) (by decide)) k) (fun k _ _ => congrFun (tg ga.g125 (by decide) (by decide) (by decide) (by decide) (by decide) (by decide) (by decide)) k) (tg ga.g126 (by decide) (by decide) (by decide) (by decide) (by decide) (by decide) (by decide)) (tg gr.2.2.2 (by decide) (by decide) (by decide) (by decide) (by decide) (by decide) (by decide)) (fun P hP hne => congrFun (tp_ P hP (hne p q hN)) 9) (fun j _ => congrFun (tg gs (by decide) (by decide) (by decide) (by decide) (by decide) (by decide) (by decide)) j) (tg gk (by decide) (by decide) (by decide) (by decide) (by decide) (by decide) (by decide)) (tg gc (by decide) (by decide) (by decide) (by decide) (by decide) (by decide) (by decide))
    exact ⟨v1, v2, A, v5, v6, v7, fun _ _ => ⟨v3, v4⟩, fun _ e => by cases e⟩
  · obtain ⟨⟨o1, o2, o3, o4, o5, o6, o7, o8, o9, fo⟩, -, -, -, -, -, -, x13, pl9⟩ := hO _ _ _ _ _ _ _ rfl
    have tg : ∀ {a t u : Nat}, G a = (t, u) → t ≠ 1004 → t ≠ 26100 → t ≠ 28100 → t ≠ 29100 → t ≠ 30100 → t ≠ 1011 → t ≠ 1008 → t ≠ 1002 → t ≠ 16100 → t ≠ 17100 → t ≠ 18100 → t ≠ 1006 → t ≠ 1010 → t ≠ 1009 → M'.1 a = M.1 a := fun ga n1 n4 n6 n7 n8 n9 n10 m1 m2 m3 m4 m5 m6 m7 => fo _ (hn_ne ga gx n9) (hn_ne ga gtp n10) (hn_ne ga gq n1) (hn_ne ga gqw n7) (hn_ne ga goa n8) (fun t ht => hn_ne ga (gqt t ht) n4) (fun t ht => hn_ne ga (gqb t ht) n6) (hn_ne ga gdl m1) (hn_ne ga gfa m2) (hn_ne ga gsa m3) (hn_ne ga gca m4) (hn_ne ga gse m5) (hn_ne ga gye m6) (hn_ne ga gud m7)
    have tp_ : ∀ P, P ∈ lq_Ps → P ≠ q → M'.1 (w P) = M.1 (w P) := fun P hP hne => by
      have g := (hA.2.1 P hP).1
      exact fo _ (hn_ne g gx (by decide)) (hn_ne g gtp (by decide)) (nip P hP hne) (hn_ne g gqw (by decide)) (hn_ne g goa (by decide)) (fun t ht => hn_ne g (gqt t ht) (by decide)) (fun t ht => hn_ne g (gqb t ht) (by decide)) (hn_ne g gdl (by decide)) (hn_ne g gfa (by decide)) (hn_ne g gsa (by decide)) (hn_ne g gca (by decide)) (hn_ne g gse (by decide)) (hn_ne g gye (by decide)) (hn_ne g gud (by decide))
    obtain ⟨hg, ⟨c1, c2⟩, hx, A, ⟨a1, a2, a3⟩, hk, hs, hp⟩ := h
    have em : ∀ k, M'.1 m k = M.1 m k := fun k => congrFun (tg gm (by decide) (by decide) (by decide) (by decide) (by decide) (by decide) (by decide) (by decide) (by decide) (by decide) (by decide) (by decide) (by decide) (by decide)) k
    have e125 : ∀ k, M'.1 (w 125) k = M.1 (w 125) k := fun k => congrFun (tg ga.g125 (by decide) (by decide) (by decide) (by decide) (by decide) (by decide) (by decide) (by decide) (by decide) (by decide) (by decide) (by decide) (by decide) (by decide)) k
    have ek := tg gk (by decide) (by decide) (by decide) (by decide) (by decide) (by decide) (by decide) (by decide) (by decide) (by decide) (by decide) (by decide) (by decide) (by decide)
    have ec := tg gc (by decide) (by decide) (by decide) (by decide) (by decide) (by decide) (by decide) (by decide) (by decide) (by decide) (by decide) (by decide) (by decide) (by decide)
    have ex : M'.1 x 13 = M'.1 m 26 + 1 := by rw [x13, hx, em, cs_inc c1 (by omega)]
    refine ⟨hg.rf hA gx gm gtp (fun a j h1 h2 h3 => o8 a j h1 h2 h3), ⟨by rw [em]; exact c1, by rw [em]; exact c2⟩, A, fun k hk2 h0 => ?_, hs.cg (fun k _ _ => e125 k) (tg ga.g126 (by decide) (by decide) (by decide) (by decide) (by decide) (by decide) (by decide) (by decide) (by decide) (by decide) (by decide) (by decide) (by decide) (by decide)) (by rw [em]; exact Int.le_refl _) (fun _ _ _ => rfl), hp.cg (fun k _ _ => e125 k) (tg ga.g126 (by decide) (by decide) (by decide) (by decide) (by decide) (by decide) (by decide) (by decide) (by decide) (by decide) (by decide) (by decide) (by decide) (by decide)) ⟨em 39, em 40⟩ (tg gr.2.2.2 (by decide) (by decide) (by decide) (by decide) (by decide) (by decide) (by decide) (by decide) (by decide) (by decide) (by decide) (by decide) (by decide) (by decide)) (by rw [em]; exact Int.le_refl _) (fun _ _ _ => rfl), (fun _ e => by cases e), fun _ _ => ⟨ex, fun p' q' hn => ?_⟩⟩
    · rw [ec] at h0
      exact (hk k hk2 h0).cg (congrFun (tp_ _ (lq_ip_in k) (hN.nip k)) 9) (fun j _ => by rw [ek]) (hk8 k hk2 h0) (by rw [em]; exact Int.le_refl _) (fun _ _ _ => rfl)
    · have e1 := Option.some.inj (hn.1.symm.trans o6)
      have hp' := lq_P4 hn.pin.1
      have hq' := lq_P4 hN.qin.1
      have : p' = q := hA.1 _ _ (by omega) (by omega) e1
      rw [this, pl9]; exact ex
abbrev lq_Vy (W : List (Nat × Nat × Nat)) : Prop := ∀ q ∈ W, q.1 ≠ 70100 ∧ q.1 ≠ 48102 ∧ (q.1 ≠ 1012 ∨ (q.2.2 < 35 ∨ 38 < q.2.1)) ∧ q.1 ≠ 1011 ∧ q.1 ≠ 1007 ∧ q.1 ≠ 1004 ∧ q.1 ≠ 1001 ∧ q.1 ≠ 2100 ∧ q.1 ≠ 5104 ∧ q.1 ≠ 7104 ∧ q.1 ≠ 10104 ∧ q.1 ≠ 61100
/-- what a call of the reference's leaves -/
theorem lq_Vy.ss {W : List (Nat × Nat × Nat)} (cW : lq_Vy W) (hg : lq_Vg G M x m w) (hA : lq_A G w) (gx : G x = (1011, 0)) (gm : G m = (1012, 0)) (f : ab_frm W G M M') : lq_Vg G M' x m w ∧ M'.2.2 (w 29) 0 = M.2.2 (w 29) 0 ∧ M'.2.2 (w 74) 0 = M.2.2 (w 74) 0 ∧ M'.1 x 13 = M.1 x 13 ∧ (∀ k, M'.1 (w 125) k = M.1 (w 125) k) ∧ M'.1 (w 126) = M.1 (w 126) ∧ M'.1 (w 348) = M.1 (w 348) ∧ (∀ P, P ∈ lq_Ps → M'.1 (w P) 9 = M.1 (w P) 9) := by
  have ga := hg.1
  have gr := hg.2.2.2.1
  refine ⟨hg.go gx gm f (fun q hq => ?_), (f _ 0 (by rw [hA.2.2.1]; rintro ⟨r, hr, e1, e2, e3⟩; exact (cW r hr).2.2.2.2.1 e1)).2, (f _ 0 (by rw [hA.2.2.2.1]; rintro ⟨r, hr, e1, e2, e3⟩; exact (cW r hr).2.2.2.2.1 e1)).2, (f x 13 (by rw [gx]; rintro ⟨r, hr, e1, e2, e3⟩; exact (cW r hr).2.2.2.1 e1)).1, fun k => (f _ k (by rw [ga.g125]; rintro ⟨r, hr, e1, e2, e3⟩; exact (cW r hr).2.2.2.2.2.2.1 e1)).1, funext fun k => (f _ k (by rw [ga.g126]; rintro ⟨r, hr, e1, e2, e3⟩; exact (cW r hr).2.2.2.2.2.2.2.1 e1)).1, funext fun k => (f _ k (by rw [gr.2.2.2]; rintro ⟨r, hr, e1, e2, e3⟩; exact (cW r hr).2.2.2.2.2.2.2.2.2.2.2 e1)).1, fun P hP => (f _ 9 (by rw [(hA.2.1 P hP).1]; rintro ⟨r, hr, e1, e2, e3⟩; exact (cW r hr).2.2.2.2.2.1 e1)).1⟩
  have q9 := cW q hq
  exact ⟨q9.2.2.1, Or.inl q9.2.2.2.1, Or.inl q9.2.2.2.2.2.2.1, q9.2.2.2.2.2.2.2.2.1, q9.2.2.2.2.2.2.2.2.2.1, q9.2.2.2.2.2.2.2.2.2.2.1⟩
theorem lq_Vq.pl2 {y : rv_Om} {W : List (Nat × Nat × Nat)} (h : lq_Vq G M x m s kp kc w c y) (hc9 : c ≤ 1000000) (h8 : 0 ≤ M.1 s 0 ∧ M.1 s 0 ≤ 8) (hk8 : lq_k8 M kp kc) (hA : lq_A G w) (gx : G x = (1011, 0)) (gm : G m = (1012, 0)) (gk : G kp = (70100, 1076)) (gc : G kc = (48102, 2)) (f : ab_frm W G M M') (cW : lq_Vy W) (f9 : M'.1 m 39 = M.1 m 39 ∧ M'.1 m 40 = M.1 m 40) (pz : lq_pz M M' s m y) : lq_V G M' x m s kp kc w (c + 1) := by
  obtain ⟨hg, ⟨c1, c2⟩, A, hk, hs, hp, h1, h2⟩ := h
  obtain ⟨hg', n1, n2, ex, e125, e126, e348, e9⟩ := lq_Vy.ss cW hg hA gx gm f
  have ek : M'.1 kp = M.1 kp := funext fun k => (f kp k (by rw [gk]; rintro ⟨r, hr, e1, e2, e3⟩; exact (cW r hr).1 e1)).1
  have ec : M'.1 kc = M.1 kc := funext fun k => (f kc k (by rw [gc]; rintro ⟨r, hr, e1, e2, e3⟩; exact (cW r hr).2.1 e1)).1
  rcases y with e | ⟨PL, WA, OA, TO, BI, nm, r⟩
  · obtain ⟨hx, hn⟩ := h1 e rfl
    obtain ⟨ha, es, em, -⟩ := pz.1 e rfl
    exact lq_V.cg (c := c) ⟨hg, ⟨c1, c2⟩, hx, A, hn, hk, hs, hp⟩ (by omega) h8 hg' n1 n2 ex (fun k hk => em k (by omega)) (fun k _ _ => e125 k) e126 e348 (fun P hP _ => e9 P hP) (fun j _ => by rw [es]) ek ec
  · obtain ⟨hx, hn⟩ := h2 _ rfl
    obtain ⟨ns, -, -, x26, x25⟩ := pz.2 _ _ _ _ _ _ _ rfl
    rw [cs_inc c1 (by omega)] at x26 x25
    refine ⟨hg', ⟨by rw [x26]; omega, by rw [x26]; omega⟩, by rw [ex, x26]; exact hx, fun z => if z = M.1 m 26 + 1 then cs_A (M'.1 s) else A z, ⟨by rw [x25, x26]; omega, fun p q hn' => ?_, ?_⟩, fun k hk2 h0 => ?_, hs.cg (fun k _ _ => e125 k) e126 (by rw [x26]; omega) (fun v h3 h4 => if_neg (by omega)), hp.cg (fun k _ _ => e125 k) e126 f9 e348 (by rw [x26]; omega) (fun v h3 h4 => if_neg (by omega))⟩
    · have hn0 := lq_N.back n1 n2 hn'
      rw [e9 p hn0.pin.1, x25]; exact hn p q hn0
    · show (if M'.1 m 25 = M.1 m 26 + 1 then cs_A (M'.1 s) else A (M'.1 m 25)) = _
      rw [if_pos x25]
    · rw [ec] at h0
      exact (hk k hk2 h0).cg (e9 _ (lq_ip_in k)) (fun j _ => by rw [ek]) (hk8 k hk2 h0) (by rw [x26]; omega) (fun v h3 h4 => if_neg (by omega))
/-- between image of the class and of the reference -/
def lq_Vi (G : mj_G) (M : mj_M) (x m s kp kc : Nat) (w : Nat → Nat) (c z1 : Int) : Prop := lq_Vg G M x m w ∧ lq_Vc M m c ∧ M.1 x 13 = M.1 m 26 ∧ ∃ A, lq_Vn A M m s w ∧ (∀ k : Nat, k < 2 → (z1 ≠ (k : Int) → M.1 kc k ≠ 0 → lq_V1 A M m kp w k) ∧ (z1 = (k : Int) → M.1 (w (lq_ip k)) 9 = M.1 m 25)) ∧ lq_Vs A M m w ∧ lq_Vp A M m w
theorem lq_Vg.no (h : lq_Vg G M x m w) (gx : G x = (1011, 0)) (gm : G m = (1012, 0)) (r : ∀ a k, rv_no (G a).1 → M'.2.2 a k = M.2.2 a k) : lq_Vg G M' x m w := by
  obtain ⟨ga, gb, x6, gr, b1, b2, b3, b4⟩ := h
  have rr : ∀ {a t n : Nat} (j : Nat), G a = (t, n) → rv_no t → M'.2.2 a j = M.2.2 a j := fun j g h1 => r _ j (by rw [g]; exact h1)
  have n11 : rv_no 1011 := by unfold rv_no; decide
  have n12 : rv_no 1012 := by unfold rv_no; decide
  refine ⟨ga, fun e he => ?_, (rr 6 gx n11).trans x6, gr, (rr 35 gm n12).trans b1, (rr 36 gm n12).trans b2, (rr 37 gm n12).trans b3, (rr 38 gm n12).trans b4⟩
  have hl : e.1 = 125 ∨ e.1 = 129 ∨ e.1 = 133 ∨ e.1 = 138 := by
    revert e
    decide
  rcases hl with h1 | h1 | h1 | h1
  · exact (rr e.2.1 (show G (w e.1) = (1001, 0) by rw [h1]; exact ga.g125) (by unfold rv_no; decide)).trans (gb e he)
  · exact (rr e.2.1 (show G (w e.1) = (5104, 3) by rw [h1]; exact ga.g129) (by unfold rv_no; decide)).trans (gb e he)
  · exact (rr e.2.1 (show G (w e.1) = (7104, 3) by rw [h1]; exact ga.g133) (by unfold rv_no; decide)).trans (gb e he)
  · exact (rr e.2.1 (show G (w e.1) = (10104, 3) by rw [h1]; exact ga.g138) (by unfold rv_no; decide)).trans (gb e he)
/-- a copy of a PLAIN, as the numbers see it -/
theorem lq_cp.V {p P : Nat} (cp : lq_cp G w p P M M') (hA : lq_A G w) (hP : P ∈ lq_Ps) (h : lq_Vg G M x m w) (gx : G x = (1011, 0)) (gm : G m = (1012, 0)) : M'.1 (w P) 9 = M.1 (w p) 9 ∧ (∀ R, R ∈ lq_Ps → R ≠ P → M'.1 (w R) 9 = M.1 (w R) 9) ∧ lq_Vg G M' x m w ∧ M'.2.2 (w 29) 0 = M.2.2 (w 29) 0 ∧ M'.2.2 (w 74) 0 = M.2.2 (w 74) 0 ∧ M'.1 x = M.1 x ∧ M'.1 m = M.1 m ∧ M'.1 (w 125) = M.1 (w 125) ∧ M'.1 (w 126) = M.1 (w 126) ∧ M'.1 (w 348) = M.1 (w 348) := by
  have ga := h.1
  have gr := h.2.2.2.1
  obtain ⟨q1, -, -, -, q5, q6⟩ := id cp
  obtain ⟨gp, gpn, -, -, gpw, gpt, gpb⟩ := hA.2.1 P hP
  refine ⟨q1 9 (by decide) (by decide), fun R hR hne => ?_, h.no gx gm q5, q5 _ _ (by rw [hA.2.2.1]; unfold rv_no; decide), q5 _ _ (by rw [hA.2.2.2.1]; unfold rv_no; decide), cp.o hA hP gx (by unfold rv_no; decide) (by decide) (by decide) (by decide) (by decide), cp.o hA hP gm (by unfold rv_no; decide) (by decide) (by decide) (by decide) (by decide), cp.o hA hP ga.g125 (by unfold rv_no; decide) (by decide) (by decide) (by decide) (by decide), cp.o hA hP ga.g126 (by unfold rv_no; decide) (by decide) (by decide) (by decide) (by decide), cp.o hA hP gr.2.2.2 (by unfold rv_no; decide) (by decide) (by decide) (by decide) (by decide)⟩
  have g := (hA.2.1 R hR).1
  refine congrFun (q6 _ (by rw [g]; unfold rv_no; decide) (fun e => ?_) (hn_ne g gpw (by decide)) (fun t ht => hn_ne g (gpt t ht) (by decide)) (fun t ht => hn_ne g (gpb t ht) (by decide))) 9
  have h4 := lq_P4 hP
  have h5 := lq_P4 hR
  exact hne (hA.1 _ _ (by omega) (by omega) e)
def lq_iV (G : mj_G) (M M' : mj_M) (kc : Nat) (w : Nat → Nat) (z1 : Int) : Prop := ∃ p q, lq_N M w p q ∧ (¬ (0 ≤ z1 ∧ z1 ≤ 1) → M' = M) ∧ (∀ k : Nat, k < 2 → z1 = (k : Int) → ∃ M1, M' = mj_p0 M1 kc k 1 ∧ lq_cp G w p (lq_ip k) M M1)
theorem lq_imgV (hI : ab_Inv G M) (gx : G x = (1011, 0)) (x4 : M.2.2 x 4 = some kc) (gkc : G kc = (48102, 2)) (hJ : lq_J G M x s kp kc w) : mj_R mj_tab 40 127 [.inr (.inr (some x)), .inl z1] G M (fun _ G' M' => G' = G ∧ lq_iV G M M' kc w z1) := by
  obtain ⟨hA, hB, p, q, hN, h1, h2⟩ := hJ
  refine r_X11_image4 hI gx hA hB hN x4 gkc (fun h0 => ⟨rfl, p, q, hN, fun _ => rfl, fun k hk e => absurd ⟨by omega, by omega⟩ h0⟩) (fun k0 hk0 e0 M1 cp _ => ⟨rfl, p, q, hN, fun n => absurd ⟨by omega, by omega⟩ n, fun k hk e => ?_⟩)
  obtain rfl : k = k0 := by omega
  exact ⟨M1, rfl, cp⟩
theorem lq_iV.kcs (iV : lq_iV G M M' kc w z1) (hA : lq_A G w) (gc : G kc = (48102, 2)) : ∀ k : Nat, k < 2 → z1 ≠ (k : Int) → M'.1 kc k = M.1 kc k := by
  obtain ⟨p, q, hN, i0, i1⟩ := iV
  intro k hk hz
  by_cases h0 : 0 ≤ z1 ∧ z1 ≤ 1
  · obtain ⟨M1, e1, cp⟩ := i1 z1.toNat (by omega) (by omega)
    rw [e1, hn_n (Or.inr (by omega))]
    exact congrFun (cp.o hA (lq_ip_in _) gc (by unfold rv_no; decide) (by decide) (by decide) (by decide) (by decide)) k
  · rw [i0 h0]
theorem lq_V.im1 (h : lq_V G M x m s kp kc w c) (h8 : 0 ≤ M.1 s 0 ∧ M.1 s 0 ≤ 8) (hk8 : lq_k8 M kp kc) (hA : lq_A G w) (gx : G x = (1011, 0)) (gm : G m = (1012, 0)) (gc : G kc = (48102, 2)) (es : M'.1 s = M.1 s) (ek : M'.1 kp = M.1 kp) (iV : lq_iV G M M' kc w z1) : lq_Vi G M' x m s kp kc w c z1 := by
  obtain ⟨p, q, hN, i0, i1⟩ := iV
  obtain ⟨hg, ⟨c1, c2⟩, hx, A, ⟨a1, a2, a3⟩, hk, hs, hp⟩ := h
  by_cases hz : 0 ≤ z1 ∧ z1 ≤ 1
  · obtain ⟨k0, hk0, e0⟩ : ∃ k : Nat, k < 2 ∧ z1 = (k : Int) := ⟨z1.toNat, by omega, by omega⟩
    obtain ⟨M1, e1, cp⟩ := i1 k0 hk0 e0
    obtain ⟨q1, q2, q3, q4, q5, q6, q7, q8, q9, q0⟩ := cp.V hA (lq_ip_in k0) hg gx gm
    have ne : ∀ {a t n : Nat}, G a = (t, n) → t ≠ 48102 → M'.1 a = M1.1 a := fun g h => by rw [e1]; exact wz_c (hn_ne g gc h)
    have rr : M'.2.2 = M1.2.2 := by rw [e1]; rfl
    have ga := hg.1
    have gr := hg.2.2.2.1
    have gP : ∀ P, P ∈ lq_Ps → M'.1 (w P) = M1.1 (w P) := fun P hP => ne (hA.2.1 P hP).1 (by decide)
    have em : M'.1 m = M.1 m := (ne gm (by decide)).trans q7
    have e125 : M'.1 (w 125) = M.1 (w 125) := (ne ga.g125 (by decide)).trans q8
    have e126 : M'.1 (w 126) = M.1 (w 126) := (ne ga.g126 (by decide)).trans q9
    have ec : ∀ k, k ≠ k0 → k < 2 → M'.1 kc k = M.1 kc k := fun k hk _ => by
      rw [e1, hn_n (Or.inr hk)]
      exact congrFun (cp.o hA (lq_ip_in k0) gc (by unfold rv_no; decide) (by decide) (by decide) (by decide) (by decide)) k
    have hg' : lq_Vg G M' x m w := by
      obtain ⟨g1, g2, g3, g4, g5⟩ := q3
      exact ⟨g1, by unfold cp_BA; rw [rr]; exact g2, by rw [rr]; exact g3, g4, by unfold cp_BR; rw [rr]; exact g5⟩
    refine ⟨hg', ⟨by rw [em]; exact c1, by rw [em]; exact c2⟩, by rw [ne gx (by decide), q6, em]; exact hx, A, ⟨by rw [em]; exact a1, fun p' q' hn => ?_, by rw [em, es]; exact a3⟩, fun k hk2 => ⟨fun hz2 h0 => ?_, fun hz2 => ?_⟩, hs.cg (fun k _ _ => by rw [e125]) e126 (by rw [em]; exact Int.le_refl _) (fun _ _ _ => rfl), hp.cg (fun k _ _ => by rw [e125]) e126 ⟨by rw [em], by rw [em]⟩ ((ne gr.2.2.2 (by decide)).trans q0) (by rw [em]; exact Int.le_refl _) (fun _ _ _ => rfl)⟩
    · have hn0 : lq_N M w p' q' := lq_N.back (by rw [rr]; exact q4) (by rw [rr]; exact q5) hn
      rw [gP p' hn0.pin.1, q2 p' hn0.pin.1 (hn0.pin.2 k0), em]
      exact a2 p' q' hn0
    · have hne : k ≠ k0 := fun e => hz2 (by rw [e]; exact e0)
      rw [ec k hne hk2] at h0
      exact (hk k hk2 h0).cg (by rw [gP _ (lq_ip_in k)]; exact q2 _ (lq_ip_in k) (lq_ip_ne hk2 hk0 hne)) (fun j _ => by rw [ek]) (hk8 k hk2 h0) (by rw [em]; exact Int.le_refl _) (fun _ _ _ => rfl)
    · obtain rfl : k = k0 := by omega
      rw [gP _ (lq_ip_in k), q1, em]
      exact a2 p q hN
  · have e := i0 hz
    subst e
    exact ⟨hg, ⟨c1, c2⟩, hx, A, ⟨a1, a2, a3⟩, fun k hk2 => ⟨fun _ h0 => hk k hk2 h0, fun e => absurd ⟨by omega, by omega⟩ hz⟩, hs, hp⟩
theorem lq_Vi.im2 {ik : Nat} {W : List (Nat × Nat × Nat)} (h : lq_Vi G M x m s kp kc w c z1) (h8 : 0 ≤ M.1 s 0 ∧ M.1 s 0 ≤ 8) (hk8 : ∀ k : Nat, k < 2 → z1 ≠ (k : Int) → M.1 kc k ≠ 0 → 0 ≤ M.1 kp (538 * k) ∧ M.1 kp (538 * k) ≤ 8) (hA : lq_A G w) (gx : G x = (1011, 0)) (gm : G m = (1012, 0)) (gs : G s = (51100, 537)) (gc : G kc = (48102, 2)) (f : ab_frm W G M M') (cW : ∀ q ∈ W, q.1 ≠ 51100 ∧ q.1 ≠ 48102 ∧ (q.1 ≠ 1012 ∨ q.2.2 < 25) ∧ q.1 ≠ 1011 ∧ q.1 ≠ 1007 ∧ q.1 ≠ 1004 ∧ q.1 ≠ 1001 ∧ q.1 ≠ 2100 ∧ q.1 ≠ 5104 ∧ q.1 ≠ 7104 ∧ q.1 ≠ 10104 ∧ q.1 ≠ 61100) (mz : ∃ nk ns, rq_mz M M' m kp nk ns z1) (o : (¬ (0 ≤ z1 ∧ z1 ≤ 1) ∧ (∀ q, M'.1 ik q = M.1 ik q) ∧ M'.1 kp = M.1 kp) ∨ (∃ k : Nat, k ≤ 1 ∧ z1 = (k : Int) ∧ M'.1 ik k = 1 ∧ (∀ q, q ≠ k → M'.1 ik q = M.1 ik q) ∧ (∀ p, p < 537 → M'.1 kp (538 * k + p) = M.1 s p) ∧ (∀ q, q < 538 * k ∨ 538 * k + 538 ≤ q → M'.1 kp q = M.1 kp q))) : lq_V G M' x m s kp kc w c := by
  obtain ⟨nk, ns, -, mz⟩ := mz
  obtain ⟨hg, ⟨c1, c2⟩, hx, A, ⟨a1, a2, a3⟩, hk, hs, hp⟩ := h
  have ga := hg.1
  have gr := hg.2.2.2.1
  have hg' : lq_Vg G M' x m w := hg.go gx gm f (fun q hq => by
    have q9 := cW q hq
    exact ⟨by omega, Or.inl q9.2.2.2.1, Or.inl q9.2.2.2.2.2.2.1, q9.2.2.2.2.2.2.2.2.1, q9.2.2.2.2.2.2.2.2.2.1, q9.2.2.2.2.2.2.2.2.2.2.1⟩)
  have fr : ∀ {a t n : Nat} (k : Nat), G a = (t, n) → (∀ q ∈ W, q.1 ≠ t) → M'.1 a k = M.1 a k ∧ M'.2.2 a k = M.2.2 a k := fun k g hh => f _ k (by rw [g]; rintro ⟨r, hr, e1, e2, e3⟩; exact hh r hr e1)
  have em : ∀ k, 25 ≤ k → M'.1 m k = M.1 m k := fun k h1 => (f m k (by rw [gm]; rintro ⟨r, hr, e1, e2, e3⟩; have := (cW r hr).2.2.1; omega)).1
  have n1 := (fr 0 hA.2.2.1 (fun q hq => (cW q hq).2.2.2.2.1)).2
  have n2 := (fr 0 hA.2.2.2.1 (fun q hq => (cW q hq).2.2.2.2.1)).2
  have ex := (fr 13 gx (fun q hq => (cW q hq).2.2.2.1)).1
  have e125 : ∀ k, M'.1 (w 125) k = M.1 (w 125) k := fun k => (fr k ga.g125 (fun q hq => (cW q hq).2.2.2.2.2.2.1)).1
  have e126 : M'.1 (w 126) = M.1 (w 126) := funext fun k => (fr k ga.g126 (fun q hq => (cW q hq).2.2.2.2.2.2.2.1)).1
  have e348 : M'.1 (w 348) = M.1 (w 348) := funext fun k => (fr k gr.2.2.2 (fun q hq => (cW q hq).2.2.2.2.2.2.2.2.2.2.2)).1
  have e9 : ∀ P, P ∈ lq_Ps → M'.1 (w P) 9 = M.1 (w P) 9 := fun P hP => (fr 9 (hA.2.1 P hP).1 (fun q hq => (cW q hq).2.2.2.2.2.1)).1
  have es : M'.1 s = M.1 s := funext fun k => (fr k gs (fun q hq => (cW q hq).1)).1
  have ec : ∀ k, M'.1 kc k = M.1 kc k := fun k => (fr k gc (fun q hq => (cW q hq).2.1)).1
  refine ⟨hg', ⟨by rw [em 26 (by decide)]; exact c1, by rw [em 26 (by decide)]; exact c2⟩, by rw [ex, em 26 (by decide)]; exact hx, A, ⟨by rw [em 25 (by decide), em 26 (by decide)]; exact a1, fun p q hn => ?_, by rw [em 25 (by decide), es]; exact a3⟩, fun k hk2 h0 => ?_, hs.cg (fun k _ _ => e125 k) e126 (by rw [em 26 (by decide)]; exact Int.le_refl _) (fun _ _ _ => rfl), hp.cg (fun k _ _ => e125 k) e126 ⟨em 39 (by decide), em 40 (by decide)⟩ e348 (by rw [em 26 (by decide)]; exact Int.le_refl _) (fun _ _ _ => rfl)⟩
  · have hn0 := lq_N.back n1 n2 hn
    rw [e9 p hn0.pin.1, em 25 (by decide)]; exact a2 p q hn0
  · rw [ec] at h0
    rcases o with ⟨oz, -, ok⟩ | ⟨k0, hk0, e0, -, -, o1, o2⟩
    · exact ((hk k hk2).1 (fun e => oz (by omega)) h0).cg (e9 _ (lq_ip_in k)) (fun j _ => by rw [ok]) (hk8 k hk2 (fun e => oz (by omega)) h0) (by rw [em 26 (by decide)]; exact Int.le_refl _) (fun _ _ _ => rfl)
    · by_cases e : k = k0
      · subst e
        obtain ⟨-, -, mk, -⟩ := mz k hk2 e0
        unfold lq_V1
        rw [e9 _ (lq_ip_in k), (hk k hk2).2 e0, mk, em 26 (by decide), a3]
        exact ⟨rfl, a1, cs_A_H (fun j hj => (o1 j (by omega)).symm) h8⟩
      · exact ((hk k hk2).1 (fun e3 => e (by omega)) h0).cg (e9 _ (lq_ip_in k)) (fun j hj => o2 _ (by omega)) (hk8 k hk2 (fun e3 => e (by omega)) h0) (by rw [em 26 (by decide)]; exact Int.le_refl _) (fun _ _ _ => rfl)
end VP
