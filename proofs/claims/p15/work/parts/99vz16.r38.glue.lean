/-! ===== plain, as the law's loop uses it ===== -/
def lp_5 (G : mj_G) (M : mj_M) : Prop := ∀ a, G a = (25104, 8) ∨ G a = (27104, 8) → ∀ s t, s < 8 → t < 8 → M.2.2 a s = M.2.2 a t → s = t
def lp_6 (G : mj_G) (M : mj_M) (tp m bc bt : Nat) : Prop := G bc = (38101, 940) ∧ G bt = (50101, 940) ∧ M.2.2 tp 0 = some bc ∧ M.2.2 m 1 = some bt ∧ rv_wl G M ∧ lp_5 G M
abbrev lp_6c (W : List (Nat × Nat × Nat)) : Prop := ∀ q ∈ W, q.1 ≠ 900105 ∧ q.1 ≠ 25104 ∧ q.1 ≠ 27104 ∧ ¬ (q.1 = 1008 ∧ q.2.1 ≤ 0) ∧ ¬ (q.1 = 1012 ∧ q.2.1 ≤ 1 ∧ 1 ≤ q.2.2)
abbrev lp_7c (W : List (Nat × Nat × Nat)) : Prop := ∀ q ∈ W, q.1 ≠ 38101 ∧ q.1 ≠ 50101
theorem lp_6.go {G : mj_G} {M M' : mj_M} {tp m bc bt : Nat} {W : List (Nat × Nat × Nat)} (h : lp_6 G M tp m bc bt) (gt : G tp = (1008, 0)) (gm : G m = (1012, 0)) (f : ab_frm W G M M') (nc : lp_6c W) : lp_6 G M' tp m bc bt := by
  obtain ⟨g1, g2, r1, r2, w, l5⟩ := h
  refine ⟨g1, g2, (f tp 0 ?_).2.trans r1, (f m 1 ?_).2.trans r2, fun a ha k hk => ?_, fun a ha s t hs ht e => ?_⟩
  · rw [gt]; rintro ⟨q, hq, e1, e2, e3⟩; exact (nc q hq).2.2.2.1 ⟨e1, e2⟩
  · rw [gm]; rintro ⟨q, hq, e1, e2, e3⟩; exact (nc q hq).2.2.2.2 ⟨e1, e2, e3⟩
  · obtain ⟨w1, e1, e2⟩ := w a ha k hk
    refine ⟨w1, (f a k ?_).2.trans e1, e2⟩
    rw [ha]; rintro ⟨q, hq, e1, -⟩; exact (nc q hq).1 e1
  · have fr : ∀ k, M'.2.2 a k = M.2.2 a k := fun k => (f a k (by
      rcases ha with ha | ha
      · rw [ha]; rintro ⟨q, hq, e1, -⟩; exact (nc q hq).2.1 e1
      · rw [ha]; rintro ⟨q, hq, e1, -⟩; exact (nc q hq).2.2.1 e1)).2
    rw [fr s, fr t] at e
    exact l5 a ha s t hs ht e
theorem lp_7.c {G : mj_G} {M M' : mj_M} {bc : Nat} {W : List (Nat × Nat × Nat)} (g : G bc = (38101, 940)) (f : ab_frm W G M M') (nc : ∀ q ∈ W, q.1 ≠ 38101) : M'.1 bc = M.1 bc := funext fun k => (f bc k (by rw [g]; rintro ⟨q, hq, e1, -⟩; exact nc q hq e1)).1
theorem lp_7.t {G : mj_G} {M M' : mj_M} {bt : Nat} {W : List (Nat × Nat × Nat)} (g : G bt = (50101, 940)) (f : ab_frm W G M M') (nc : ∀ q ∈ W, q.1 ≠ 50101) : M'.1 bt = M.1 bt := funext fun k => (f bt k (by rw [g]; rintro ⟨q, hq, e1, -⟩; exact nc q hq e1)).1
theorem rv_row {G : mj_G} {M : mj_M} {a t n u k w : Nat} (hI : ab_Inv G M) (ha : G a = (t, n)) (e : ab_rf t 0 = some (u, w)) (e' : ∀ k, ab_rf t k = ab_rf t 0) (h1 : u ≠ 0) (h2 : u ≠ 1) (h3 : u ≠ 50) (hk : k < n) : M.2.2 a k = some ((M.2.2 a k).getD 0) ∧ G ((M.2.2 a k).getD 0) = (u, w) := by
  obtain ⟨b, hb, gb⟩ := hn_rf (k := k) (q := (u, w)) hI ha ((e' k).trans e) h1 h2 h3 (fun _ => hk)
  rw [hb]; exact ⟨rfl, gb⟩
theorem lp_size {G : mj_G} {M : mj_M} {tp : Nat} (hI : ab_Inv G M) (g : G tp = (1008, 0)) : ∃ n : Nat, n ≤ 940 ∧ M.1 tp 1 = (n : Int) := by
  have h := hI.1 tp 1
  rw [g] at h
  have h : (0 : Int) ≤ M.1 tp 1 ∧ M.1 tp 1 ≤ 940 := h
  exact ⟨(M.1 tp 1).toNat, by omega, by omega⟩
theorem ab_rsv8 : ∀ k, k < 24 → ab_rsv k = rv_8 (rv_rs.getD k []) := by
  intro k hk
  have h : ∀ k : Fin 24, ab_rsv k.val = rv_8 (rv_rs.getD k.val []) := by decide +kernel
  exact h ⟨k, hk⟩
/-- two tellings of one call -/
theorem lp_and {y : Nat} {av : List mj_V} {G : mj_G} {M : mj_M} {R R' Q : mj_P} (hk : an_ok mj_tab 40 y = true) (h1 : mj_R mj_tab 40 y av G M R) (h2 : mj_R mj_tab 40 y av G M R') (h : ∀ r G M, R r G M → R' r G M → Q r G M) : mj_R mj_tab 40 y av G M Q := mj_R_mo mj_tab 40 _ _ _ _ _ _ (fun r G M q => h r G M q.1 q.2) (an_R mj_tab 40 y av G M R R' hk h1 h2)
theorem lp_ok4 : an_ok mj_tab 40 138 = true ∧ an_ok mj_tab 40 226 = true ∧ an_ok mj_tab 40 124 = true ∧ an_ok mj_tab 40 187 = true := by decide +kernel
/-! ===== the PLAINS behind a call that doesn't write them ===== -/
abbrev lq_9c (W : List (Nat × Nat × Nat)) : Prop := ∀ q ∈ W, q.1 ≠ 25104 ∧ q.1 ≠ 26100 ∧ q.1 ≠ 27104 ∧ q.1 ≠ 29100 ∧ q.1 ≠ 47106 ∧ ¬ (q.1 = 1004 ∧ q.2.1 < 9) ∧ ¬ (q.1 = 1011 ∧ q.2.1 ≤ 3) ∧ ¬ (q.1 = 1007 ∧ q.2.1 = 0) ∧ q.1 ≠ 28100
abbrev lq_8c (W : List (Nat × Nat × Nat)) : Prop := lq_9c W ∧ ∀ q ∈ W, q.1 ≠ 48102 ∧ q.1 ≠ 70100 ∧ ¬ (q.1 = 51100 ∧ q.2.1 < 184)
section GO
variable {G : mj_G} {M M' : mj_M} {w : Nat → Nat} {x p q P : Nat} {W : List (Nat × Nat × Nat)}
theorem lq_B.go (hB : lq_B M w x) (hA : lq_A G w) (gx : G x = (1011, 0)) (f : ab_frm W G M M') (c : lq_9c W) : lq_B M' w x := by
  obtain ⟨b1, b2, b3, b4, b5, b6, b7, b8⟩ := hB
  obtain ⟨-, a2, a3, a4, a5, a6, a7⟩ := hA
  have hx : ∀ k, k < 4 → M'.2.2 x k = M.2.2 x k := fun k hk => (f x k (by
    rw [gx]; rintro ⟨r, hr, e1, e2, e3⟩; exact (c r hr).2.2.2.2.2.2.1 ⟨e1, by omega⟩)).2
  have h9 : ∀ k, M'.2.2 (w 119) k = M.2.2 (w 119) k := fun k => (f _ k (by
    rw [a7]; rintro ⟨r, hr, e1, e2, e3⟩; exact (c r hr).2.2.2.2.1 e1)).2
  have h7 : ∀ a, G a = (1007, 0) → M'.2.2 a 0 = M.2.2 a 0 := fun a ha => (f _ 0 (by
    rw [ha]; rintro ⟨r, hr, e1, e2, e3⟩; exact (c r hr).2.2.2.2.2.2.2.1 ⟨e1, by omega⟩)).2
  refine ⟨fun P hP => ?_, (hx 1 (by decide)).trans b2, (hx 2 (by decide)).trans b3, (hx 3 (by decide)).trans b4, (h9 0).trans b5, (h9 1).trans b6, (h7 _ a5).trans b7, (h7 _ a6).trans b8⟩
  obtain ⟨g1, g2, g3, g4, g5, g6, g7⟩ := a2 P hP
  obtain ⟨c1, c2, c3, c4, c5, c6⟩ := b1 P hP
  have hp : ∀ k, k < 4 → M'.2.2 (w P) k = M.2.2 (w P) k := fun k hk => (f _ k (by
    rw [g1]; rintro ⟨r, hr, e1, e2, e3⟩; exact (c r hr).2.2.2.2.2.1 ⟨e1, by omega⟩)).2
  refine ⟨(hp 0 (by decide)).trans c1, (hp 1 (by decide)).trans c2, (hp 2 (by decide)).trans c3, (hp 3 (by decide)).trans c4, fun t ht => (f _ t ?_).2.trans (c5 t ht), fun t ht => (f _ t ?_).2.trans (c6 t ht)⟩
  · rw [g3]; rintro ⟨r, hr, e1, e2, e3⟩; exact (c r hr).1 e1
  · rw [g4]; rintro ⟨r, hr, e1, e2, e3⟩; exact (c r hr).2.2.1 e1
theorem lq_N.go (hN : lq_N M w p q) (hA : lq_A G w) (f : ab_frm W G M M') (c : lq_9c W) : lq_N M' w p q := by
  obtain ⟨n1, n2, n3⟩ := hN
  have h7 : ∀ a, G a = (1007, 0) → M'.2.2 a 0 = M.2.2 a 0 := fun a ha => (f _ 0 (by
    rw [ha]; rintro ⟨r, hr, e1, e2, e3⟩; exact (c r hr).2.2.2.2.2.2.2.1 ⟨e1, by omega⟩)).2
  exact ⟨(h7 _ hA.2.2.1).trans n1, (h7 _ hA.2.2.2.1).trans n2, n3⟩
/-- the numbers of a PLAIN that counts are as they were -/
def lq_E (w : Nat → Nat) (P : Nat) (M M' : mj_M) : Prop := (M'.1 (w P) 4 = M.1 (w P) 4 ∧ M'.1 (w P) 6 = M.1 (w P) 6 ∧ M'.1 (w P) 7 = M.1 (w P) 7 ∧ M'.1 (w P) 8 = M.1 (w P) 8) ∧ (∀ t v, t < 8 → v < 9 → M'.1 (w (P + 3 + t)) v = M.1 (w (P + 3 + t)) v) ∧ (∀ v, v < 12 → M'.1 (w (P + 20)) v = M.1 (w (P + 20)) v)
def lq_E6 (w : Nat → Nat) (P : Nat) (M M' : mj_M) : Prop := lq_E w P M M' ∧ M'.1 (w P) 5 = M.1 (w P) 5 ∧ (∀ t v, t < 8 → v < 12 → M'.1 (w (P + 12 + t)) v = M.1 (w (P + 12 + t)) v)
theorem lq_E6.go (hA : lq_A G w) (hP : P ∈ lq_Ps) (f : ab_frm W G M M') (c : lq_9c W) : lq_E6 w P M M' := by
  obtain ⟨g1, g2, g3, g4, g5, g6, g7⟩ := hA.2.1 P hP
  have hp : ∀ k, k < 9 → M'.1 (w P) k = M.1 (w P) k := fun k hk => (f _ k (by
    rw [g1]; rintro ⟨r, hr, e1, e2, e3⟩; exact (c r hr).2.2.2.2.2.1 ⟨e1, by omega⟩)).1
  refine ⟨⟨⟨hp 4 (by decide), hp 6 (by decide), hp 7 (by decide), hp 8 (by decide)⟩, fun t v ht hv => (f _ v ?_).1, fun v hv => (f _ v ?_).1⟩, hp 5 (by decide), fun t v ht hv => (f _ v ?_).1⟩
  · rw [g6 t ht]; rintro ⟨r, hr, e1, e2, e3⟩; exact (c r hr).2.1 e1
  · rw [g5]; rintro ⟨r, hr, e1, e2, e3⟩; exact (c r hr).2.2.2.1 e1
  · rw [g7 t ht]; rintro ⟨r, hr, e1, e2, e3⟩; exact (c r hr).2.2.2.2.2.2.2.2 e1
/-- a PLAIN with its bids and their count against numbers from o on -/
def rv_G6 (H : Nat → Int) (o : Nat) (w : Nat → Nat) (P : Nat) (M : mj_M) : Prop := rv_G4 H o w P M ∧ (∀ t v, t < 8 → v < 12 → H (o + (88 + 12 * t + v)) = M.1 (w (P + 12 + t)) v) ∧ M.1 (w P) 5 = lq_ct (fun i => H (o + (88 + i))) 96
theorem rv_G4.cg {H H' : Nat → Int} {o o' : Nat} (h : rv_G4 H o w P M) (e : lq_E w P M M') (eh : ∀ k, k < 88 → H' (o' + k) = H (o + k)) : rv_G4 H' o' w P M' := by
  obtain ⟨h1, h2, h3, h4, h5, h6⟩ := h
  obtain ⟨⟨e1, e2, e3, e4⟩, e5, e6⟩ := e
  refine ⟨(eh 0 (by decide)).trans (h1.trans e1.symm), (eh 1 (by decide)).trans (h2.trans e2.symm), (eh 2 (by decide)).trans (h3.trans e3.symm), (eh 3 (by decide)).trans (h4.trans e4.symm), fun t v ht hv => (eh _ (by omega)).trans ((h5 t v ht hv).trans (e5 t v ht hv).symm), fun v hv => (eh _ (by omega)).trans ((h6 v hv).trans (e6 v hv).symm)⟩
theorem rv_G6.cg {H H' : Nat → Int} {o o' : Nat} (h : rv_G6 H o w P M) (e : lq_E6 w P M M') (eh : ∀ k, k < 184 → H' (o' + k) = H (o + k)) : rv_G6 H' o' w P M' := by
  obtain ⟨h1, h2, h3⟩ := h
  obtain ⟨e1, e2, e3⟩ := e
  refine ⟨h1.cg e1 (fun k hk => eh k (by omega)), fun t v ht hv => (eh _ (by omega)).trans ((h2 t v ht hv).trans (e3 t v ht hv).symm), e2.trans (h3.trans (lq_ct_cg 96 (fun i hi => (eh _ (by omega)).symm)))⟩
/-- the PLAIN now and the images' of both sides -/
def lq_J (G : mj_G) (M : mj_M) (x s kp kc : Nat) (w : Nat → Nat) : Prop := lq_A G w ∧ lq_B M w x ∧ ∃ p q, lq_N M w p q ∧ rv_G6 (M.1 s) 0 w p M ∧ ∀ k, k < 2 → M.1 kc k ≠ 0 → rv_G6 (M.1 kp) (538 * k) w (lq_ip k) M
theorem lq_J.go {s kp kc : Nat} (h : lq_J G M x s kp kc w) (gx : G x = (1011, 0)) (gs : G s = (51100, 537)) (gk : G kp = (70100, 1076)) (gc : G kc = (48102, 2)) (f : ab_frm W G M M') (c : lq_8c W) : lq_J G M' x s kp kc w := by
  obtain ⟨hA, hB, p, q, hN, h1, h2⟩ := h
  have es : ∀ k, k < 184 → M'.1 s k = M.1 s k := fun k hk => (f _ k (by
    rw [gs]; rintro ⟨r, hr, e1, e2, e3⟩; exact (c.2 r hr).2.2 ⟨e1, by omega⟩)).1
  have ek : ∀ k, M'.1 kp k = M.1 kp k := fun k => (f _ k (by
    rw [gk]; rintro ⟨r, hr, e1, e2, e3⟩; exact (c.2 r hr).2.1 e1)).1
  have ec : ∀ k, M'.1 kc k = M.1 kc k := fun k => (f _ k (by
    rw [gc]; rintro ⟨r, hr, e1, e2, e3⟩; exact (c.2 r hr).1 e1)).1
  refine ⟨hA, hB.go hA gx f c.1, p, q, hN.go hA f c.1, h1.cg (lq_E6.go hA hN.pin.1 f c.1) (fun k hk => by rw [Nat.zero_add]; exact es k hk), fun k hk h0 => ?_⟩
  rw [ec k] at h0
  exact (h2 k hk h0).cg (lq_E6.go hA (lq_ip_in k) f c.1) (fun j _ => ek _)
end GO
