/-! ===== names of the PLAINS now and of the images, alike on both sides ===== -/
def nz_1 (M : mj_M) (c a off : Nat) (n : Int) : Prop := ∃ nm : Nat → List Int, (∀ j, j < 8 → M.2.1 c j = rv_5 (nm j) ∧ rv_wo (nm j)) ∧ (∀ j : Nat, (j : Int) < n → M.2.1 a (off + j) = rv_8 (nm j))
theorem nz_1.cg {M M' : mj_M} {c a off c' a' off' : Nat} {n n' : Int} (h : nz_1 M c a off n) (e1 : ∀ j, j < 8 → M'.2.1 c' j = M.2.1 c j) (e2 : ∀ j : Nat, (j : Int) < n' → M'.2.1 a' (off' + j) = M.2.1 a (off + j)) (en : n' ≤ n) : nz_1 M' c' a' off' n' := by
  obtain ⟨nm, h1, h2⟩ := h
  exact ⟨nm, fun j hj => by rw [e1 j hj]; exact h1 j hj, fun j hj => by rw [e2 j hj]; exact h2 j (by omega)⟩
def nz_R (G : mj_G) (M : mj_M) (m ns nk : Nat) : Prop := M.2.2 m 9 = some ns ∧ G ns = (54103, 16) ∧ M.2.2 m 60 = some nk ∧ G nk = (71103, 16)
def nz_N (M : mj_M) (s ns : Nat) (w : Nat → Nat) : Prop := ∀ p q, lq_N M w p q → nz_1 M (w (p + 1)) ns 0 (M.1 s 0)
def nz_I (M : mj_M) (kp kc nk : Nat) (w : Nat → Nat) : Prop := ∀ k : Nat, k < 2 → M.1 kc k ≠ 0 → nz_1 M (w (lq_ip k + 1)) nk (8 * k) (M.1 kp (538 * k))
def nz (G : mj_G) (M : mj_M) (s m kp kc : Nat) (w : Nat → Nat) : Prop := ∃ ns nk, nz_R G M m ns nk ∧ nz_N M s ns w ∧ nz_I M kp kc nk w
abbrev nz_c (W : List (Nat × Nat × Nat)) : Prop := ∀ q ∈ W, ¬ (q.1 = 51100 ∧ q.2.1 = 0) ∧ q.1 ≠ 70100 ∧ q.1 ≠ 48102 ∧ ¬ (q.1 = 1012 ∧ q.2.1 ≤ 9 ∧ 9 ≤ q.2.2) ∧ ¬ (q.1 = 1012 ∧ q.2.1 ≤ 60 ∧ 60 ≤ q.2.2) ∧ ¬ (q.1 = 1007 ∧ q.2.1 = 0)
section NZ
variable {G : mj_G} {M M' : mj_M} {x s m kp kc ud tp : Nat} {w : Nat → Nat} {z1 : Int}
theorem lq_N.back (e1 : M'.2.2 (w 29) 0 = M.2.2 (w 29) 0) (e2 : M'.2.2 (w 74) 0 = M.2.2 (w 74) 0) {p q : Nat} (h : lq_N M' w p q) : lq_N M w p q := ⟨e1.symm.trans h.1, e2.symm.trans h.2.1, h.2.2⟩
theorem nz_na (hA : lq_A G w) {P : Nat} (hP : P ∈ lq_Ps) : (G (w (P + 1))).1 % 1000 = 103 := by rw [(hA.2.1 P hP).2.1]; rfl
theorem nz.cg (h : nz G M s m kp kc w) (hA : lq_A G w) (r9 : M'.2.2 m 9 = M.2.2 m 9) (r60 : M'.2.2 m 60 = M.2.2 m 60) (n1 : M'.2.2 (w 29) 0 = M.2.2 (w 29) 0) (n2 : M'.2.2 (w 74) 0 = M.2.2 (w 74) 0) (es : M'.1 s 0 = M.1 s 0) (ek : M'.1 kp = M.1 kp) (ec : M'.1 kc = M.1 kc) (l : ∀ a k, (G a).1 % 1000 = 103 → (∀ p q, lq_N M w p q → a ≠ w (q + 1)) → M'.2.1 a k = M.2.1 a k) : nz G M' s m kp kc w := by
  obtain ⟨ns, nk, ⟨r1, r2, r3, r4⟩, hN, hI⟩ := h
  have ln_ : ∀ k, M'.2.1 ns k = M.2.1 ns k := fun k => l ns k (by rw [r2]; rfl) (fun p q hn e => hn_ne r2 ((hA.2.1 q hn.qin.1).2.1) (by decide) e)
  have lk : ∀ k, M'.2.1 nk k = M.2.1 nk k := fun k => l nk k (by rw [r4]; rfl) (fun p q hn e => hn_ne r4 ((hA.2.1 q hn.qin.1).2.1) (by decide) e)
  refine ⟨ns, nk, ⟨r9.trans r1, r2, r60.trans r3, r4⟩, fun p q hn => ?_, fun k hk h0 => ?_⟩
  · have hn0 := lq_N.back n1 n2 hn
    refine (hN p q hn0).cg (fun j _ => l _ j (nz_na hA hn0.pin.1) (fun p' q' hn' e => ?_)) (fun j _ => ln_ _) (by rw [es]; exact Int.le_refl _)
    have h4 := lq_P4 hn0.pin.1
    have h5 := lq_P4 hn'.qin.1
    have e := hA.1 _ _ (by omega) (by omega) e
    have := hn0.2.2; have := hn'.2.2; have a := Option.some.inj (hn0.1.symm.trans hn'.1)
    have := hA.1 _ _ (by omega) (by have := lq_P4 hn'.pin.1; omega) a
    omega
  · rw [ec] at h0; rw [ek]
    refine (hI k hk h0).cg (fun j _ => l _ j (nz_na hA (lq_ip_in k)) (fun p' q' hn' e => ?_)) (fun j _ => lk _) (Int.le_refl _)
    have h4 := lq_P4 (lq_ip_in k)
    have h5 := lq_P4 hn'.qin.1
    have e := hA.1 _ _ (by omega) (by omega) e
    exact hn'.nip k (by omega)
theorem nz.go {W : List (Nat × Nat × Nat)} (h : nz G M s m kp kc w) (hA : lq_A G w) (gm : G m = (1012, 0)) (gs : G s = (51100, 537)) (gk : G kp = (70100, 1076)) (gc : G kc = (48102, 2)) (f : ab_frm W G M M') (l : ln G M M') (c : nz_c W) : nz G M' s m kp kc w :=
  h.cg hA (f m 9 (by rw [gm]; rintro ⟨r, hr, e1, e2, e3⟩; exact (c r hr).2.2.2.1 ⟨e1, e2, e3⟩)).2 (f m 60 (by rw [gm]; rintro ⟨r, hr, e1, e2, e3⟩; exact (c r hr).2.2.2.2.1 ⟨e1, e2, e3⟩)).2 (f _ 0 (by rw [hA.2.2.1]; rintro ⟨r, hr, e1, e2, e3⟩; exact (c r hr).2.2.2.2.2 ⟨e1, by omega⟩)).2 (f _ 0 (by rw [hA.2.2.2.1]; rintro ⟨r, hr, e1, e2, e3⟩; exact (c r hr).2.2.2.2.2 ⟨e1, by omega⟩)).2 (f s 0 (by rw [gs]; rintro ⟨r, hr, e1, e2, e3⟩; exact (c r hr).1 ⟨e1, by omega⟩)).1 (funext fun k => (f kp k (by rw [gk]; rintro ⟨r, hr, e1, e2, e3⟩; exact (c r hr).2.1 e1)).1) (funext fun k => (f kc k (by rw [gc]; rintro ⟨r, hr, e1, e2, e3⟩; exact (c r hr).2.2.1 e1)).1) (fun a k ha _ => l a k ha)
theorem nz.mv (h : nz G M s m kp kc w) (hA : lq_A G w) (e1 : M'.1 = M.1) (e2 : M'.2.2 = M.2.2) (l : ∀ a k, (G a).1 % 1000 = 103 → (G a).1 ≠ 90103 → M'.2.1 a k = M.2.1 a k) : nz G M' s m kp kc w := by
  obtain ⟨ns, nk, ⟨r1, r2, r3, r4⟩, hN, hI⟩ := h
  refine ⟨ns, nk, ⟨by rw [e2]; exact r1, r2, by rw [e2]; exact r3, r4⟩, fun p q hn => ?_, fun k hk h0 => ?_⟩
  · have hn0 : lq_N M w p q := lq_N.back (by rw [e2]) (by rw [e2]) hn
    rw [e1]
    exact (hN p q hn0).cg (fun j _ => l _ j (nz_na hA hn0.pin.1) (by rw [(hA.2.1 p hn0.pin.1).2.1]; decide)) (fun j _ => l _ _ (by rw [r2]; rfl) (by rw [r2]; decide)) (Int.le_refl _)
  · rw [e1] at h0 ⊢
    exact (hI k hk h0).cg (fun j _ => l _ j (nz_na hA (lq_ip_in k)) (by rw [(hA.2.1 _ (lq_ip_in k)).2.1]; decide)) (fun j _ => l _ _ (by rw [r4]; rfl) (by rw [r4]; decide)) (Int.le_refl _)
/-- between plain of the class and of the reference -/
def nz_p (G : mj_G) (M : mj_M) (s m kp kc : Nat) (w : Nat → Nat) (y : rv_Om) : Prop := ∃ ns nk, nz_R G M m ns nk ∧ nz_I M kp kc nk w ∧ (∀ e, y = .inl e → nz_N M s ns w) ∧ (∀ PL WA OA TO BI nm r, y = .inr (PL, WA, OA, TO, BI, nm, r) → ∀ p q, lq_N M w p q → ∀ j, j < 8 → M.2.1 (w (p + 1)) j = rv_5 (nm j) ∧ rv_wo (nm j))
theorem nz.pl1 {y : rv_Om} (h : nz G M s m kp kc w) (hA : lq_A G w) (gx : G x = (1011, 0)) (gm : G m = (1012, 0)) (gtp : G tp = (1008, 0)) (gs : G s = (51100, 537)) (gk : G kp = (70100, 1076)) (gc : G kc = (48102, 2)) (py : lq_py G M M' x tp w y) : nz_p G M' s m kp kc w y := by
  obtain ⟨p, q, oa, dl, fa, sa, ca, se, ye, ud, hN, goa, hX, hF, hO⟩ := py
  obtain ⟨⟨-, g74, g29, gse, gye, gud, gdl, gfa, gsa, gca, -⟩, -⟩ := hX
  obtain ⟨gq, gqn, -, -, gqw, gqt, gqb⟩ := hA.2.1 q hN.qin.1
  have hp4 := lq_P4 hN.pin.1
  have hq4 := lq_P4 hN.qin.1
  have npq : p ≠ q := hN.qin.2
  have np1 : w (p + 1) ≠ w (q + 1) := fun e => by have := hA.1 _ _ (by omega) (by omega) e; omega
  have ni : ∀ k, w (lq_ip k + 1) ≠ w (q + 1) := fun k e => by
    have h4 := lq_P4 (lq_ip_in k)
    have := hA.1 _ _ (by omega) (by omega) e
    exact hN.nip k (by omega)
  rcases y with e | ⟨PL, WA, OA, TO, BI, nm, r⟩
  · obtain ⟨⟨f2, fl, f1⟩, -⟩ := hF e rfl
    have rf : ∀ a j, a ≠ tp → M'.2.2 a j = M.2.2 a j := fun a j ha => f2 a j (fun e => ha e.1)
    have tg : ∀ {a t u : Nat}, G a = (t, u) → t ≠ 1004 → t ≠ 26100 → t ≠ 28100 → t ≠ 29100 → t ≠ 30100 → t ≠ 1011 → t ≠ 1008 → M'.1 a = M.1 a := fun ga n1 n4 n6 n7 n8 n9 n10 => f1 _ (hn_ne ga gx n9) (hn_ne ga gtp n10) (hn_ne ga gq n1) (hn_ne ga gqw n7) (hn_ne ga goa n8) (fun t ht => hn_ne ga (gqt t ht) n4) (fun t ht => hn_ne ga (gqb t ht) n6)
    obtain ⟨ns, nk, hR, h1, h2⟩ := h.cg hA (rf m 9 (hn_ne gm gtp (by decide))) (rf m 60 (hn_ne gm gtp (by decide))) (rf _ 0 (hn_ne g29 gtp (by decide))) (rf _ 0 (hn_ne g74 gtp (by decide))) (congrFun (tg gs (by decide) (by decide) (by decide) (by decide) (by decide) (by decide) (by decide)) 0) (tg gk (by decide) (by decide) (by decide) (by decide) (by decide) (by decide) (by decide)) (tg gc (by decide) (by decide) (by decide) (by decide) (by decide) (by decide) (by decide)) (fun a k ha hn => congrFun (fl a (hn p q hN) (fun e => by rw [e, gtp] at ha; exact absurd ha (by decide))) k)
    exact ⟨ns, nk, hR, h2, fun _ _ => h1, (fun _ _ _ _ _ _ _ e => by cases e)⟩
  · obtain ⟨⟨o1, o2, o3, o4, o5, o6, o7, o8, o9, fo⟩, -⟩ := hO _ _ _ _ _ _ _ rfl
    obtain ⟨ns, nk, ⟨r1, r2, r3, r4⟩, h1, h2⟩ := h
    have ne2 : w 74 ≠ w 29 := fun e => absurd (hA.1 _ _ (by decide) (by decide) e) (by decide)
    have tg : ∀ {a t u : Nat}, G a = (t, u) → t ≠ 1004 → t ≠ 26100 → t ≠ 28100 → t ≠ 29100 → t ≠ 30100 → t ≠ 1011 → t ≠ 1008 → t ≠ 1002 → t ≠ 16100 → t ≠ 17100 → t ≠ 18100 → t ≠ 1006 → t ≠ 1010 → t ≠ 1009 → M'.1 a = M.1 a := fun ga n1 n4 n6 n7 n8 n9 n10 m1 m2 m3 m4 m5 m6 m7 => fo _ (hn_ne ga gx n9) (hn_ne ga gtp n10) (hn_ne ga gq n1) (hn_ne ga gqw n7) (hn_ne ga goa n8) (fun t ht => hn_ne ga (gqt t ht) n4) (fun t ht => hn_ne ga (gqb t ht) n6) (hn_ne ga gdl m1) (hn_ne ga gfa m2) (hn_ne ga gsa m3) (hn_ne ga gca m4) (hn_ne ga gse m5) (hn_ne ga gye m6) (hn_ne ga gud m7)
    have ek : M'.1 kp = M.1 kp := tg gk (by decide) (by decide) (by decide) (by decide) (by decide) (by decide) (by decide) (by decide) (by decide) (by decide) (by decide) (by decide) (by decide) (by decide)
    have ec : M'.1 kc = M.1 kc := tg gc (by decide) (by decide) (by decide) (by decide) (by decide) (by decide) (by decide) (by decide) (by decide) (by decide) (by decide) (by decide) (by decide) (by decide)
    have rm : ∀ j, M'.2.2 m j = M.2.2 m j := fun j => o8 m j (fun e => hn_ne gm gtp (by decide) e.1) (fun e => hn_ne gm g29 (by decide) e.1) (fun e => hn_ne gm g74 (by decide) e.1)
    have lo : ∀ a k, (G a).1 % 1000 = 103 → a ≠ w (q + 1) → M'.2.1 a k = M.2.1 a k := fun a k ha hn => congrFun (o9 a hn (fun e => by rw [e, gtp] at ha; exact absurd ha (by decide))) k
    refine ⟨ns, nk, ⟨(rm 9).trans r1, r2, (rm 60).trans r3, r4⟩, fun k hk h0 => ?_, (fun _ e => by cases e), fun PL2 WA2 OA2 TO2 BI2 nm2 r2 e p' q' hn j hj => ?_⟩
    · rw [ec] at h0; rw [ek]
      exact (h2 k hk h0).cg (fun j _ => lo _ j (nz_na hA (lq_ip_in k)) (ni k)) (fun j _ => lo _ _ (by rw [r4]; rfl) (hn_ne r4 gqn (by decide))) (Int.le_refl _)
    · cases e
      have e1 := Option.some.inj (hn.1.symm.trans o6)
      have hp' := lq_P4 hn.pin.1
      have : p' = q := hA.1 _ _ (by omega) (by omega) e1
      rw [this]; exact o5 j hj
theorem nz_p.pl2 {y : rv_Om} {W : List (Nat × Nat × Nat)} (h : nz_p G M s m kp kc w y) (hA : lq_A G w) (gm : G m = (1012, 0)) (gk : G kp = (70100, 1076)) (gc : G kc = (48102, 2)) (f : ab_frm W G M M') (c : ∀ q ∈ W, q.1 ≠ 70100 ∧ q.1 ≠ 48102 ∧ ¬ (q.1 = 1012 ∧ q.2.1 ≤ 9 ∧ 9 ≤ q.2.2) ∧ ¬ (q.1 = 1012 ∧ q.2.1 ≤ 60 ∧ 60 ≤ q.2.2) ∧ q.1 ≠ 1007) (b8 : M.1 s 0 ≤ 8) (pz : lq_pz M M' s m y) (o2 : ∀ PL WA OA TO BI nm r, y = .inr (PL, WA, OA, TO, BI, nm, r) → ∃ ns, M.2.2 m 9 = some ns ∧ rv_QO s ns PL WA TO BI nm M') : nz G M' s m kp kc w := by
  obtain ⟨ns, nk, ⟨r1, r2, r3, r4⟩, hI, h1, h2⟩ := h
  have r9 := (f m 9 (by rw [gm]; rintro ⟨r, hr, e1, e2, e3⟩; exact (c r hr).2.2.1 ⟨e1, e2, e3⟩)).2
  have r60 := (f m 60 (by rw [gm]; rintro ⟨r, hr, e1, e2, e3⟩; exact (c r hr).2.2.2.1 ⟨e1, e2, e3⟩)).2
  have n1 := (f (w 29) 0 (by rw [hA.2.2.1]; rintro ⟨r, hr, e1, e2, e3⟩; exact (c r hr).2.2.2.2 e1)).2
  have n2 := (f (w 74) 0 (by rw [hA.2.2.2.1]; rintro ⟨r, hr, e1, e2, e3⟩; exact (c r hr).2.2.2.2 e1)).2
  have ek : M'.1 kp = M.1 kp := funext fun k => (f kp k (by rw [gk]; rintro ⟨r, hr, e1, e2, e3⟩; exact (c r hr).1 e1)).1
  have ec : M'.1 kc = M.1 kc := funext fun k => (f kc k (by rw [gc]; rintro ⟨r, hr, e1, e2, e3⟩; exact (c r hr).2.1 e1)).1
  have nm_ : ∀ {a t n : Nat}, G a = (t, n) → t ≠ 1012 → a ≠ m := fun ga h => hn_ne ga gm h
  have gna : ∀ P, P ∈ lq_Ps → G (w (P + 1)) = (24103, 8) := fun P hP => (hA.2.1 P hP).2.1
  rcases y with e | ⟨PL, WA, OA, TO, BI, nm, r⟩
  · obtain ⟨ha, es, -, -, lo⟩ := pz.1 e rfl
    have l1 : ∀ {a t n : Nat} (j : Nat), G a = (t, n) → t ≠ 1012 → (a ≠ ns ∨ j < 8) → M'.2.1 a j = M.2.1 a j := fun j ga ht hj => lo _ j (nm_ ga ht) (fun q => by
      have := Option.some.inj (r1.symm.trans q.1)
      rcases hj with hj | hj
      · exact hj this.symm
      · omega)
    refine ⟨ns, nk, ⟨r9.trans r1, r2, r60.trans r3, r4⟩, fun p q hn => ?_, fun k hk h0 => ?_⟩
    · have hn0 := lq_N.back n1 n2 hn
      obtain ⟨nm, a1, a2⟩ := h1 e rfl p q hn0
      rw [es]
      refine ⟨nm, fun j hj => ?_, fun j hj => ?_⟩
      · rw [l1 j (gna p hn0.pin.1) (by decide) (Or.inr hj)]; exact a1 j hj
      · rw [l1 (0 + j) r2 (by decide) (Or.inr (by omega))]; exact a2 j hj
    · rw [ec] at h0; rw [ek]
      exact (hI k hk h0).cg (fun j hj => l1 j (gna _ (lq_ip_in k)) (by decide) (Or.inr hj)) (fun j _ => l1 _ r4 (by decide) (Or.inl (hn_ne r4 r2 (by decide)))) (Int.le_refl _)
  · obtain ⟨ns', e9, x1, -⟩ := pz.2 _ _ _ _ _ _ _ rfl
    obtain rfl : ns' = ns := Option.some.inj (e9.symm.trans r1)
    obtain ⟨ns2, e92, qo⟩ := o2 _ _ _ _ _ _ _ rfl
    obtain rfl : ns2 = ns' := Option.some.inj (e92.symm.trans r1)
    refine ⟨ns2, nk, ⟨r9.trans r1, r2, r60.trans r3, r4⟩, fun p q hn => ?_, fun k hk h0 => ?_⟩
    · have hn0 := lq_N.back n1 n2 hn
      refine ⟨nm, fun j hj => ?_, fun j hj => ?_⟩
      · rw [x1 _ (nm_ (gna p hn0.pin.1) (by decide)) (hn_ne (gna p hn0.pin.1) r2 (by decide))]; exact h2 _ _ _ _ _ _ _ rfl p q hn0 j hj
      · rw [Nat.zero_add]; exact (qo.2.1 j (by rw [← qo.1.1]; exact hj)).1
    · rw [ec] at h0; rw [ek]
      exact (hI k hk h0).cg (fun j hj => congrFun (x1 _ (nm_ (gna _ (lq_ip_in k)) (by decide)) (hn_ne (gna _ (lq_ip_in k)) r2 (by decide))) j) (fun j _ => congrFun (x1 nk (nm_ r4 (by decide)) (hn_ne r4 r2 (by decide))) _) (Int.le_refl _)
/-- between image of the class and of the reference -/
def nz_i (G : mj_G) (M : mj_M) (s m kp kc : Nat) (w : Nat → Nat) (z1 : Int) : Prop := ∃ ns nk, nz_R G M m ns nk ∧ nz_N M s ns w ∧ (∀ k : Nat, k < 2 → (z1 ≠ (k : Int) → M.1 kc k ≠ 0 → nz_1 M (w (lq_ip k + 1)) nk (8 * k) (M.1 kp (538 * k))) ∧ (z1 = (k : Int) → nz_1 M (w (lq_ip k + 1)) ns 0 (M.1 s 0)))
theorem nz.im1 (h : nz G M s m kp kc w) (hA : lq_A G w) (gx : G x = (1011, 0)) (gm : G m = (1012, 0)) (gs : G s = (51100, 537)) (gk : G kp = (70100, 1076)) (gc : G kc = (48102, 2)) {W : List (Nat × Nat × Nat)} (f : ab_frm W G M M') (c : ∀ q ∈ W, q.1 ≠ 51100 ∧ q.1 ≠ 70100 ∧ q.1 ≠ 1012 ∧ ¬ (q.1 = 1007 ∧ q.2.1 = 0)) (iy : lq_iy G M M' kc w z1) : nz_i G M' s m kp kc w z1 := by
  obtain ⟨ns, nk, ⟨r1, r2, r3, r4⟩, h1, h2⟩ := h
  obtain ⟨p, q, hN, i0, i1⟩ := iy
  have r9 := (f m 9 (by rw [gm]; rintro ⟨r, hr, e1, e2, e3⟩; exact (c r hr).2.2.1 e1)).2
  have r60 := (f m 60 (by rw [gm]; rintro ⟨r, hr, e1, e2, e3⟩; exact (c r hr).2.2.1 e1)).2
  have n1 := (f (w 29) 0 (by rw [hA.2.2.1]; rintro ⟨r, hr, e1, e2, e3⟩; exact (c r hr).2.2.2 ⟨e1, by omega⟩)).2
  have n2 := (f (w 74) 0 (by rw [hA.2.2.2.1]; rintro ⟨r, hr, e1, e2, e3⟩; exact (c r hr).2.2.2 ⟨e1, by omega⟩)).2
  have es : M'.1 s = M.1 s := funext fun k => (f s k (by rw [gs]; rintro ⟨r, hr, e1, e2, e3⟩; exact (c r hr).1 e1)).1
  have ek : M'.1 kp = M.1 kp := funext fun k => (f kp k (by rw [gk]; rintro ⟨r, hr, e1, e2, e3⟩; exact (c r hr).2.1 e1)).1
  have gna : ∀ P, P ∈ lq_Ps → G (w (P + 1)) = (24103, 8) := fun P hP => (hA.2.1 P hP).2.1
  by_cases hz : 0 ≤ z1 ∧ z1 ≤ 1
  · obtain ⟨k0, hk0, e0⟩ : ∃ k : Nat, k < 2 ∧ z1 = (k : Int) := ⟨z1.toNat, by omega, by omega⟩
    obtain ⟨st, M1, e1, ekc, e2, cr1, cr2, -⟩ := i1 k0 hk0 e0
    have l1 : ∀ a j, (G a).1 % 1000 = 103 → a ≠ w (lq_ip k0 + 1) → M'.2.1 a j = M.2.1 a j := fun a j ha hn => by rw [e1]; exact cr2 a j ha hn
    have l2 : ∀ j, j < 8 → M'.2.1 (w (lq_ip k0 + 1)) j = M.2.1 (w (p + 1)) j := fun j hj => by rw [e1]; exact cr1 j hj
    have ec : ∀ k, k ≠ k0 → M'.1 kc k = M.1 kc k := fun k hk => by rw [e1, ← ekc]; exact hn_n (Or.inr hk)
    refine ⟨ns, nk, ⟨r9.trans r1, r2, r60.trans r3, r4⟩, fun p' q' hn => ?_, fun k hk => ⟨fun hz h0 => ?_, fun hz => ?_⟩⟩
    · have hn0 := lq_N.back n1 n2 hn
      rw [es]
      refine (h1 p' q' hn0).cg (fun j _ => l1 _ j (nz_na hA hn0.pin.1) (fun e => ?_)) (fun j _ => l1 _ _ (by rw [r2]; rfl) (hn_ne r2 (gna _ (lq_ip_in k0)) (by decide))) (Int.le_refl _)
      have h4 := lq_P4 hn0.pin.1
      have h5 := lq_P4 (lq_ip_in k0)
      have := hA.1 _ _ (by omega) (by omega) e
      exact hn0.pin.2 k0 (by omega)
    · have hne : k ≠ k0 := fun e => hz (by rw [e]; exact e0)
      rw [ec k hne] at h0
      rw [ek]
      refine (h2 k hk h0).cg (fun j _ => l1 _ j (nz_na hA (lq_ip_in k)) (fun e => ?_)) (fun j _ => l1 _ _ (by rw [r4]; rfl) (hn_ne r4 (gna _ (lq_ip_in k0)) (by decide))) (Int.le_refl _)
      have h4 := lq_P4 (lq_ip_in k)
      have h5 := lq_P4 (lq_ip_in k0)
      have := hA.1 _ _ (by omega) (by omega) e
      exact lq_ip_ne hk hk0 hne (by omega)
    · obtain rfl : k = k0 := by omega
      rw [es]
      exact (h1 p q hN).cg (fun j hj => l2 j hj) (fun j _ => l1 _ _ (by rw [r2]; rfl) (hn_ne r2 (gna _ (lq_ip_in k)) (by decide))) (Int.le_refl _)
  · have e := i0 hz
    subst e
    exact ⟨ns, nk, ⟨r1, r2, r3, r4⟩, h1, fun k hk => ⟨fun _ h0 => h2 k hk h0, fun e => absurd ⟨by omega, by omega⟩ hz⟩⟩
theorem nz_i.im2 {ik : Nat} (h : nz_i G M s m kp kc w z1) (hA : lq_A G w) (gm : G m = (1012, 0)) (gs : G s = (51100, 537)) (gc : G kc = (48102, 2)) {W : List (Nat × Nat × Nat)} (f : ab_frm W G M M') (c : ∀ q ∈ W, q.1 ≠ 51100 ∧ q.1 ≠ 48102 ∧ ¬ (q.1 = 1012 ∧ q.2.1 ≤ 9 ∧ 9 ≤ q.2.2) ∧ ¬ (q.1 = 1012 ∧ q.2.1 ≤ 60 ∧ 60 ≤ q.2.2) ∧ q.1 ≠ 1007) (b8 : M.1 s 0 ≤ 8) (bk : ∀ k : Nat, k < 2 → z1 ≠ (k : Int) → M.1 kc k ≠ 0 → M.1 kp (538 * k) ≤ 8) (mz : ∀ ns nk, M.2.2 m 9 = some ns → M.2.2 m 60 = some nk → rq_mz M M' m kp nk ns z1) (o : (¬ (0 ≤ z1 ∧ z1 ≤ 1) ∧ (∀ q, M'.1 ik q = M.1 ik q) ∧ M'.1 kp = M.1 kp) ∨ (∃ k : Nat, k ≤ 1 ∧ z1 = (k : Int) ∧ M'.1 ik k = 1 ∧ (∀ q, q ≠ k → M'.1 ik q = M.1 ik q) ∧ (∀ p, p < 537 → M'.1 kp (538 * k + p) = M.1 s p) ∧ (∀ q, q < 538 * k ∨ 538 * k + 538 ≤ q → M'.1 kp q = M.1 kp q))) : nz G M' s m kp kc w := by
  obtain ⟨ns, nk, ⟨r1, r2, r3, r4⟩, h1, h2⟩ := h
  have mz := mz ns nk r1 r3
  have r9 := (f m 9 (by rw [gm]; rintro ⟨r, hr, e1, e2, e3⟩; exact (c r hr).2.2.1 ⟨e1, e2, e3⟩)).2
  have r60 := (f m 60 (by rw [gm]; rintro ⟨r, hr, e1, e2, e3⟩; exact (c r hr).2.2.2.1 ⟨e1, e2, e3⟩)).2
  have n1 := (f (w 29) 0 (by rw [hA.2.2.1]; rintro ⟨r, hr, e1, e2, e3⟩; exact (c r hr).2.2.2.2 e1)).2
  have n2 := (f (w 74) 0 (by rw [hA.2.2.2.1]; rintro ⟨r, hr, e1, e2, e3⟩; exact (c r hr).2.2.2.2 e1)).2
  have es : M'.1 s = M.1 s := funext fun k => (f s k (by rw [gs]; rintro ⟨r, hr, e1, e2, e3⟩; exact (c r hr).1 e1)).1
  have ec : M'.1 kc = M.1 kc := funext fun k => (f kc k (by rw [gc]; rintro ⟨r, hr, e1, e2, e3⟩; exact (c r hr).2.1 e1)).1
  have gna : ∀ P, P ∈ lq_Ps → G (w (P + 1)) = (24103, 8) := fun P hP => (hA.2.1 P hP).2.1
  rcases o with ⟨hz, -, ek⟩ | ⟨k0, hk0, e0, -, -, j5, j6⟩
  · obtain ⟨l0, -⟩ := mz.1 hz
    refine ⟨ns, nk, ⟨r9.trans r1, r2, r60.trans r3, r4⟩, fun p q hn => ?_, fun k hk h0 => ?_⟩
    · rw [es]
      exact (h1 p q (lq_N.back n1 n2 hn)).cg (fun j _ => by rw [l0]) (fun j _ => by rw [l0]) (Int.le_refl _)
    · rw [ec] at h0; rw [ek]
      exact ((h2 k hk).1 (by omega) h0).cg (fun j _ => by rw [l0]) (fun j _ => by rw [l0]) (Int.le_refl _)
  · obtain ⟨l1, l2, -⟩ := mz.2 k0 (by omega) e0
    have lp : ∀ P, P ∈ lq_Ps → ∀ j, M'.2.1 (w (P + 1)) j = M.2.1 (w (P + 1)) j := fun P hP j => l2 _ j (fun q => hn_ne (gna P hP) r4 (by decide) q.1)
    have ls : ∀ j, M'.2.1 ns j = M.2.1 ns j := fun j => l2 _ j (fun q => hn_ne r2 r4 (by decide) q.1)
    refine ⟨ns, nk, ⟨r9.trans r1, r2, r60.trans r3, r4⟩, fun p q hn => ?_, fun k hk h0 => ?_⟩
    · have hn0 := lq_N.back n1 n2 hn
      rw [es]
      exact (h1 p q hn0).cg (fun j _ => lp p hn0.pin.1 j) (fun j _ => ls _) (Int.le_refl _)
    · rw [ec] at h0
      by_cases e : k = k0
      · subst e
        have ek : M'.1 kp (538 * k) = M.1 s 0 := j5 0 (by decide)
        rw [ek]
        exact ((h2 k hk).2 e0).cg (fun j _ => lp _ (lq_ip_in k) j) (fun j hj => by rw [Nat.zero_add]; exact l1 j (by omega)) (Int.le_refl _)
      · rw [j6 (538 * k) (by omega)]
        refine ((h2 k hk).1 (by omega) h0).cg (fun j _ => lp _ (lq_ip_in k) j) (fun j hj => l2 _ _ (fun q => ?_)) (Int.le_refl _)
        have := bk k hk (by omega) h0
        omega
/-- between restore of the class and of the reference -/
def nz_r (G : mj_G) (M : mj_M) (s m kp kc : Nat) (w : Nat → Nat) (z1 : Int) : Prop := ∃ ns nk, nz_R G M m ns nk ∧ nz_I M kp kc nk w ∧ ((∀ k : Nat, k < 2 → z1 = (k : Int) → M.1 kc k = 0) → nz_N M s ns w) ∧ (∀ k : Nat, k < 2 → z1 = (k : Int) → M.1 kc k ≠ 0 → ∀ p q, lq_N M w p q → nz_1 M (w (p + 1)) nk (8 * k) (M.1 kp (538 * k)))
theorem nz.re1 (h : nz G M s m kp kc w) (hA : lq_A G w) (gm : G m = (1012, 0)) (gs : G s = (51100, 537)) (gk : G kp = (70100, 1076)) (gc : G kc = (48102, 2)) {W : List (Nat × Nat × Nat)} (f : ab_frm W G M M') (c : ∀ q ∈ W, q.1 ≠ 51100 ∧ q.1 ≠ 70100 ∧ q.1 ≠ 48102 ∧ q.1 ≠ 1012 ∧ ¬ (q.1 = 1007 ∧ q.2.1 = 0)) (ry : lq_ry G M M' kc ud w z1) : nz_r G M' s m kp kc w z1 := by
  obtain ⟨ns, nk, ⟨r1, r2, r3, r4⟩, h1, h2⟩ := h
  obtain ⟨p, q, hN, i0, i1⟩ := ry
  have r9 := (f m 9 (by rw [gm]; rintro ⟨r, hr, e1, e2, e3⟩; exact (c r hr).2.2.2.1 e1)).2
  have r60 := (f m 60 (by rw [gm]; rintro ⟨r, hr, e1, e2, e3⟩; exact (c r hr).2.2.2.1 e1)).2
  have n1 := (f (w 29) 0 (by rw [hA.2.2.1]; rintro ⟨r, hr, e1, e2, e3⟩; exact (c r hr).2.2.2.2 ⟨e1, by omega⟩)).2
  have n2 := (f (w 74) 0 (by rw [hA.2.2.2.1]; rintro ⟨r, hr, e1, e2, e3⟩; exact (c r hr).2.2.2.2 ⟨e1, by omega⟩)).2
  have es : M'.1 s = M.1 s := funext fun k => (f s k (by rw [gs]; rintro ⟨r, hr, e1, e2, e3⟩; exact (c r hr).1 e1)).1
  have ek : M'.1 kp = M.1 kp := funext fun k => (f kp k (by rw [gk]; rintro ⟨r, hr, e1, e2, e3⟩; exact (c r hr).2.1 e1)).1
  have ec : M'.1 kc = M.1 kc := funext fun k => (f kc k (by rw [gc]; rintro ⟨r, hr, e1, e2, e3⟩; exact (c r hr).2.2.1 e1)).1
  have gna : ∀ P, P ∈ lq_Ps → G (w (P + 1)) = (24103, 8) := fun P hP => (hA.2.1 P hP).2.1
  by_cases hz : ∀ k : Nat, k < 2 → z1 = (k : Int) → M.1 kc k = 0
  · have e := i0 hz
    subst e
    exact ⟨ns, nk, ⟨r1, r2, r3, r4⟩, h2, fun _ => h1, fun k hk e h0 => absurd (hz k hk e) h0⟩
  · obtain ⟨k0, hk0, e0, hc0⟩ : ∃ k : Nat, k < 2 ∧ z1 = (k : Int) ∧ M.1 kc k ≠ 0 := Classical.byContradiction (fun n => hz (fun k hk e => Classical.byContradiction (fun h => n ⟨k, hk, e, h⟩)))
    obtain ⟨st, M1, e1, e2, cr1, cr2, -⟩ := i1 k0 hk0 e0 hc0
    have l1 : ∀ a j, (G a).1 % 1000 = 103 → a ≠ w (p + 1) → M'.2.1 a j = M.2.1 a j := fun a j ha hn => by rw [e1]; exact cr2 a j ha hn
    have l2 : ∀ j, j < 8 → M'.2.1 (w (p + 1)) j = M.2.1 (w (lq_ip k0 + 1)) j := fun j hj => by rw [e1]; exact cr1 j hj
    have gp := gna p hN.pin.1
    have hp4 := lq_P4 hN.pin.1
    refine ⟨ns, nk, ⟨r9.trans r1, r2, r60.trans r3, r4⟩, fun k hk h0 => ?_, fun h => ?_, fun k hk e _ p' q' hn => ?_⟩
    · rw [ec] at h0; rw [ek]
      refine (h2 k hk h0).cg (fun j _ => l1 _ j (nz_na hA (lq_ip_in k)) (fun e => ?_)) (fun j _ => l1 _ _ (by rw [r4]; rfl) (hn_ne r4 gp (by decide))) (Int.le_refl _)
      have h4 := lq_P4 (lq_ip_in k)
      have := hA.1 _ _ (by omega) (by omega) e
      exact hN.pin.2 k (by omega)
    · have := h k0 hk0 e0
      rw [ec] at this
      exact absurd this hc0
    · obtain rfl : k = k0 := by omega
      have hn0 := lq_N.back n1 n2 hn
      have a := Option.some.inj (hn0.1.symm.trans hN.1)
      have hp' := lq_P4 hn0.pin.1
      have a := hA.1 _ _ (by omega) (by omega) a
      subst a
      rw [ek]
      exact (h2 k hk hc0).cg (fun j hj => l2 j hj) (fun j _ => l1 _ _ (by rw [r4]; rfl) (hn_ne r4 gp (by decide))) (Int.le_refl _)
theorem nz_r.re2 {ik : Nat} (h : nz_r G M s m kp kc w z1) (hA : lq_A G w) (gm : G m = (1012, 0)) (gk : G kp = (70100, 1076)) (gc : G kc = (48102, 2)) {W : List (Nat × Nat × Nat)} (f : ab_frm W G M M') (c : ∀ q ∈ W, q.1 ≠ 70100 ∧ q.1 ≠ 48102 ∧ ¬ (q.1 = 1012 ∧ q.2.1 ≤ 9 ∧ 9 ≤ q.2.2) ∧ ¬ (q.1 = 1012 ∧ q.2.1 ≤ 60 ∧ 60 ≤ q.2.2) ∧ q.1 ≠ 1007) (mk : ∀ k, k < 2 → M.1 kc k = M.1 ik k) (bk : ∀ k : Nat, k < 2 → M.1 kc k ≠ 0 → M.1 kp (538 * k) ≤ 8) (rz : ∀ ns nk, M.2.2 m 9 = some ns → M.2.2 m 60 = some nk → rq_rz M M' m kp nk ns ik z1) (o : ((¬ (0 ≤ z1 ∧ z1 ≤ 1) ∨ M.1 ik z1.toNat = 0) ∧ M'.1 s = M.1 s) ∨ (∃ k : Nat, k ≤ 1 ∧ z1 = (k : Int) ∧ M.1 ik k ≠ 0 ∧ (∀ p, p < 537 → M'.1 s p = M.1 kp (538 * k + p)))) : nz G M' s m kp kc w := by
  obtain ⟨ns, nk, ⟨r1, r2, r3, r4⟩, hI, h1, h2⟩ := h
  have rz := rz ns nk r1 r3
  have r9 := (f m 9 (by rw [gm]; rintro ⟨r, hr, e1, e2, e3⟩; exact (c r hr).2.2.1 ⟨e1, e2, e3⟩)).2
  have r60 := (f m 60 (by rw [gm]; rintro ⟨r, hr, e1, e2, e3⟩; exact (c r hr).2.2.2.1 ⟨e1, e2, e3⟩)).2
  have n1 := (f (w 29) 0 (by rw [hA.2.2.1]; rintro ⟨r, hr, e1, e2, e3⟩; exact (c r hr).2.2.2.2 e1)).2
  have n2 := (f (w 74) 0 (by rw [hA.2.2.2.1]; rintro ⟨r, hr, e1, e2, e3⟩; exact (c r hr).2.2.2.2 e1)).2
  have ek : M'.1 kp = M.1 kp := funext fun k => (f kp k (by rw [gk]; rintro ⟨r, hr, e1, e2, e3⟩; exact (c r hr).1 e1)).1
  have ec : M'.1 kc = M.1 kc := funext fun k => (f kc k (by rw [gc]; rintro ⟨r, hr, e1, e2, e3⟩; exact (c r hr).2.1 e1)).1
  have gna : ∀ P, P ∈ lq_Ps → G (w (P + 1)) = (24103, 8) := fun P hP => (hA.2.1 P hP).2.1
  rcases o with ⟨hz, es⟩ | ⟨k0, hk0, e0, hc0, j4⟩
  · obtain ⟨l0, -⟩ := rz.1 hz
    have hz' : ∀ k : Nat, k < 2 → z1 = (k : Int) → M.1 kc k = 0 := fun k hk e => by
      rcases hz with hz | hz
      · exact absurd ⟨by omega, by omega⟩ hz
      · rw [e] at hz; rw [mk k hk]; exact hz
    refine ⟨ns, nk, ⟨r9.trans r1, r2, r60.trans r3, r4⟩, fun p q hn => ?_, fun k hk h0 => ?_⟩
    · rw [es]
      exact (h1 hz' p q (lq_N.back n1 n2 hn)).cg (fun j _ => by rw [l0]) (fun j _ => by rw [l0]) (Int.le_refl _)
    · rw [ec] at h0; rw [ek]
      exact (hI k hk h0).cg (fun j _ => by rw [l0]) (fun j _ => by rw [l0]) (Int.le_refl _)
  · have hk2 : k0 < 2 := by omega
    obtain ⟨l1, l2, -⟩ := rz.2 k0 hk2 e0 hc0
    have hcc : M.1 kc k0 ≠ 0 := by rw [mk k0 hk2]; exact hc0
    have lp : ∀ P, P ∈ lq_Ps → ∀ j, M'.2.1 (w (P + 1)) j = M.2.1 (w (P + 1)) j := fun P hP j => l2 _ j (fun q => hn_ne (gna P hP) r2 (by decide) q.1)
    have lk : ∀ j, M'.2.1 nk j = M.2.1 nk j := fun j => l2 _ j (fun q => hn_ne r4 r2 (by decide) q.1)
    have b := bk k0 hk2 hcc
    refine ⟨ns, nk, ⟨r9.trans r1, r2, r60.trans r3, r4⟩, fun p q hn => ?_, fun k hk h0 => ?_⟩
    · have hn0 := lq_N.back n1 n2 hn
      have es : M'.1 s 0 = M.1 kp (538 * k0) := j4 0 (by decide)
      rw [es]
      exact (h2 k0 hk2 e0 hcc p q hn0).cg (fun j _ => lp p hn0.pin.1 j) (fun j hj => by rw [Nat.zero_add]; exact l1 j (by omega)) (Int.le_refl _)
    · rw [ec] at h0; rw [ek]
      exact (hI k hk h0).cg (fun j _ => lp _ (lq_ip_in k) j) (fun j _ => lk _) (Int.le_refl _)
theorem nz.wo {W : List (Nat × Nat × Nat)} (h : nz G M s m kp kc w) (hA : lq_A G w) (gm : G m = (1012, 0)) (gs : G s = (51100, 537)) (gk : G kp = (70100, 1076)) (gc : G kc = (48102, 2)) (f : ab_frm W G M M') (c : nz_c W) (wo : ∃ p q, lq_N M w p q ∧ lq_N M' w p q ∧ ∀ a k, (G a).1 % 1000 = 103 → a ≠ w (q + 1) → M'.2.1 a k = M.2.1 a k) : nz G M' s m kp kc w :=
  h.cg hA (f m 9 (by rw [gm]; rintro ⟨r, hr, e1, e2, e3⟩; exact (c r hr).2.2.2.1 ⟨e1, e2, e3⟩)).2 (f m 60 (by rw [gm]; rintro ⟨r, hr, e1, e2, e3⟩; exact (c r hr).2.2.2.2.1 ⟨e1, e2, e3⟩)).2 (f _ 0 (by rw [hA.2.2.1]; rintro ⟨r, hr, e1, e2, e3⟩; exact (c r hr).2.2.2.2.2 ⟨e1, by omega⟩)).2 (f _ 0 (by rw [hA.2.2.2.1]; rintro ⟨r, hr, e1, e2, e3⟩; exact (c r hr).2.2.2.2.2 ⟨e1, by omega⟩)).2 (f s 0 (by rw [gs]; rintro ⟨r, hr, e1, e2, e3⟩; exact (c r hr).1 ⟨e1, by omega⟩)).1 (funext fun k => (f kp k (by rw [gk]; rintro ⟨r, hr, e1, e2, e3⟩; exact (c r hr).2.1 e1)).1) (funext fun k => (f kc k (by rw [gc]; rintro ⟨r, hr, e1, e2, e3⟩; exact (c r hr).2.2.1 e1)).1) (fun a k ha hn => by
    obtain ⟨p, q, hN, -, l⟩ := wo
    exact l a k ha (hn p q hN))
end NZ
