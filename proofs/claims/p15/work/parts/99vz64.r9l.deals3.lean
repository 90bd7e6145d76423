/-! ===== CONTRACTS through image, restore, contracts ===== -/
section DF
variable {G : mj_G} {M M' : mj_M} {x s m kp kc tp ud bc bt : Nat} {w : Nat → Nat} {z1 : Int}
theorem lq_B.sk (hB : lq_B M w x) {k st : Nat} (hk : k < 2) (h : M.2.2 (w 119) k = some st) : st = w (lq_sk k) := by
  obtain ⟨-, -, -, -, b0, b1, -⟩ := hB
  rcases (by omega : k = 0 ∨ k = 1) with z | z <;> subst z
  · exact Option.some.inj (h.symm.trans b0)
  · exact Option.some.inj (h.symm.trans b1)
theorem rd_E.cg2 {H H' : Nat → Int} {o o' D D' : Nat} (h : rd_E M H o w D) (e1 : ∀ j, j < 12 → M'.1 (w (D' + 1)) j = M.1 (w (D + 1)) j ∧ M'.1 (w (D' + 2)) j = M.1 (w (D + 2)) j ∧ M'.1 (w (D' + 3)) j = M.1 (w (D + 3)) j) (e0 : M'.1 (w D') 3 = M.1 (w D) 3) (eH : ∀ j, j < 37 → H' (o' + (184 + j)) = H (o + (184 + j))) : rd_E M' H' o' w D' := by
  obtain ⟨h1, h2⟩ := h
  refine ⟨fun j hj => ?_, ?_⟩
  · obtain ⟨a1, a2, a3⟩ := h1 j hj
    obtain ⟨c1, c2, c3⟩ := e1 j hj
    have b1 := eH (3 * j) (by omega)
    have b2 := eH (1 + 3 * j) (by omega)
    have b3 := eH (2 + 3 * j) (by omega)
    rw [show 184 + (1 + 3 * j) = 185 + 3 * j by omega] at b2
    rw [show 184 + (2 + 3 * j) = 186 + 3 * j by omega] at b3
    rw [c1, c2, c3, b1, b2, b3]
    exact ⟨a1, a2, a3⟩
  · have b := eH 36 (by decide)
    rw [e0, show 220 = 184 + 36 from rfl, b]; exact h2
/-- frames that leave the references of CONTRACTS -/
abbrev lq_Dx (W : List (Nat × Nat × Nat)) : Prop := ∀ q ∈ W, (q.1 ≠ 1002 ∨ 2 < q.2.1) ∧ (q.1 ≠ 1007 ∨ q.2.2 < 1 ∨ 1 < q.2.1)
theorem lq_DB.fr {W : List (Nat × Nat × Nat)} (hB : lq_DB M w) (hD : lq_DA G w) (hA : lq_A G w) (f : ab_frm W G M M') (cW : lq_Dx W) : lq_DB M' w ∧ ∀ dn ds, lq_DN M w dn ds → lq_DN M' w dn ds := by
  have r7 : ∀ i, G (w i) = (1007, 0) → M'.2.2 (w i) 1 = M.2.2 (w i) 1 := fun i g => (f _ 1 (by rw [g]; rintro ⟨r, hr, e1, e2, e3⟩; have := (cW r hr).2; omega)).2
  refine ⟨hB.cg (fun D hD2 k hk => (f _ k (by rw [(hD D hD2).1]; rintro ⟨r, hr, e1, e2, e3⟩; have := (cW r hr).1; omega)).2) (fun i hi => r7 i (by rcases hi with z | z <;> subst z <;> first | exact hA.2.2.2.2.1 | exact hA.2.2.2.2.2.1)), fun dn ds hN => ⟨(r7 29 hA.2.2.1).trans hN.1, (r7 74 hA.2.2.2.1).trans hN.2.1, hN.2.2⟩⟩
/-- between image of the class and of the reference -/
def lq_Di (G : mj_G) (M : mj_M) (s kp kc : Nat) (w : Nat → Nat) (z1 : Int) : Prop := lq_DA G w ∧ lq_DB M w ∧ (∃ dn ds, lq_DN M w dn ds ∧ rd_E M (M.1 s) 0 w dn) ∧ (∀ k : Nat, k < 2 → z1 ≠ (k : Int) → M.1 kc k ≠ 0 → rd_E M (M.1 kp) (538 * k) w (lq_di k)) ∧ (∀ k : Nat, k < 2 → z1 = (k : Int) → rd_E M (M.1 s) 0 w (lq_di k))
theorem lq_D.im1 {W : List (Nat × Nat × Nat)} (h : lq_D G M s kp kc w) (hA : lq_A G w) (hB : lq_B M w x) (gc : G kc = (48102, 2)) (es : M'.1 s = M.1 s) (ek : M'.1 kp = M.1 kp) (f : ab_frm W G M M') (cW : lq_Dx W) (iy : lq_iy G M M' kc w z1) : lq_Di G M' s kp kc w z1 := by
  obtain ⟨p, q, hN, i0, i1⟩ := iy
  obtain ⟨hDA, hDB, ⟨dn, ds, hDN, hE⟩, hk⟩ := h
  obtain ⟨hDB', hDN'⟩ := hDB.fr hDA hA f cW
  have hn := hDN.nin
  refine ⟨hDA, hDB', ?_⟩
  by_cases hz : 0 ≤ z1 ∧ z1 ≤ 1
  · have hk0 : z1.toNat < 2 := by omega
    have e0 : z1 = (z1.toNat : Int) := by omega
    generalize z1.toNat = k0 at hk0 e0
    obtain ⟨st, M1, e1, ec, e9, -, -, cr⟩ := i1 k0 hk0 e0
    have est := hB.sk hk0 e9
    subst est
    obtain ⟨c1, c2, c3⟩ := cr _ _ _ _ _ _ _ _ (hDB.D hDA hn.1) (hDB.D hDA (lq_di_in k0)) hDN.1 (hDB.2 k0 hk0)
    have ne : ∀ {a t n : Nat}, G a = (t, n) → t ≠ 48102 → M'.1 a = M1.1 a := fun g h1 => by rw [e1]; exact wz_c (hn_ne g gc h1)
    have keep : ∀ D, D ∈ lq_Dl → D ≠ lq_di k0 → ∀ v, v < 4 → M'.1 (w (D + v)) = M.1 (w (D + v)) := fun D hD hne v hv => by
      obtain ⟨t, n, g, ht⟩ := hDA.gv hD hv
      have hne2 := lq_Dl.ne hA hD (lq_di_in k0) hne hv
      exact (ne g (by omega)).trans (c3 _ (by rw [g]; exact ht) (hne2 (show 0 < 4 by decide)) (hne2 (by decide)) (hne2 (by decide)) (hne2 (by decide)))
    refine ⟨⟨dn, ds, hDN' _ _ hDN, hE.cg (keep dn hn.1 (hn.2.2.2.1 k0)) (fun j _ => by rw [es])⟩, fun k hk2 hz2 h0 => ?_, fun k hk2 hz2 => ?_⟩
    · have hne : k ≠ k0 := fun e => hz2 (by rw [e]; exact e0)
      have h0' : M.1 kc k ≠ 0 := by
        rw [e1, hn_n (Or.inr hne), ec] at h0; exact h0
      rw [ek]
      exact (hk k hk2 h0').cg (keep _ (lq_di_in k) (by unfold lq_di; split <;> split <;> omega)) (fun _ _ => rfl)
    · obtain rfl : k = k0 := by omega
      obtain ⟨g0, g1, g2, g3⟩ := hDA _ (lq_di_in k)
      refine hE.cg2 (fun j hj => ?_) ?_ (fun j _ => by rw [es])
      · rw [ne g1 (by decide), ne g2 (by decide), ne g3 (by decide)]
        exact c1 j hj
      · rw [ne g0 (by decide)]; exact c2
  · have e := i0 hz
    subst e
    exact ⟨⟨dn, ds, hDN, hE⟩, fun k hk2 _ h0 => hk k hk2 h0, fun k hk2 e => absurd ⟨by omega, by omega⟩ hz⟩
theorem lq_Di.im2 {W : List (Nat × Nat × Nat)} (h : lq_Di G M s kp kc w z1) (hA : lq_A G w) (gs : G s = (51100, 537)) (gc : G kc = (48102, 2)) (f : ab_frm W G M M') (cW : ∀ q ∈ W, q.1 ≠ 1002 ∧ q.1 ≠ 16100 ∧ q.1 ≠ 17100 ∧ q.1 ≠ 18100 ∧ q.1 ≠ 1007 ∧ q.1 ≠ 51100 ∧ q.1 ≠ 48102) (o : (¬ (0 ≤ z1 ∧ z1 ≤ 1) ∧ M'.1 kp = M.1 kp) ∨ (∃ k : Nat, k ≤ 1 ∧ z1 = (k : Int) ∧ (∀ p, p < 537 → M'.1 kp (538 * k + p) = M.1 s p) ∧ (∀ q, q < 538 * k ∨ 538 * k + 538 ≤ q → M'.1 kp q = M.1 kp q))) : lq_D G M' s kp kc w := by
  obtain ⟨hDA, hDB, ⟨dn, ds, hDN, hE⟩, h1, h2⟩ := h
  obtain ⟨hDB', hDN'⟩ := hDB.fr hDA hA f (fun q hq => ⟨Or.inl (cW q hq).1, Or.inl (cW q hq).2.2.2.2.1⟩)
  have hn := hDN.nin
  have fr : ∀ {a t n : Nat} (k : Nat), G a = (t, n) → (∀ q ∈ W, q.1 ≠ t) → M'.1 a k = M.1 a k := fun k g hh => (f _ k (by rw [g]; rintro ⟨r, hr, e1, e2, e3⟩; exact hh r hr e1)).1
  have ev : ∀ D, D ∈ lq_Dl → ∀ v, v < 4 → M'.1 (w (D + v)) = M.1 (w (D + v)) := fun D hD v hv => funext fun k => by
    obtain ⟨t, n, g, ht⟩ := hDA.gv hD hv
    exact fr k g (fun q hq => by have c := cW q hq; omega)
  have es : M'.1 s = M.1 s := funext fun k => fr k gs (fun q hq => (cW q hq).2.2.2.2.2.1)
  have ec : M'.1 kc = M.1 kc := funext fun k => fr k gc (fun q hq => (cW q hq).2.2.2.2.2.2)
  refine ⟨hDA, hDB', ⟨dn, ds, hDN' _ _ hDN, hE.cg (ev dn hn.1) (fun j _ => by rw [es])⟩, fun k hk2 h0 => ?_⟩
  rw [ec] at h0
  rcases o with ⟨o1, o2⟩ | ⟨k0, o1, o2, o3, o4⟩
  · exact (h1 k hk2 (fun e => o1 ⟨by omega, by omega⟩) h0).cg (ev _ (lq_di_in k)) (fun _ _ => by rw [o2])
  · by_cases e : k = k0
    · subst e
      exact (h2 k hk2 o2).cg (ev _ (lq_di_in k)) (fun j hj => by rw [Nat.zero_add]; exact o3 _ (by omega))
    · exact (h1 k hk2 (fun e2 => e (by omega)) h0).cg (ev _ (lq_di_in k)) (fun j hj => o4 _ (by omega))
/-- between restore of the class and of the reference -/
def lq_Dr (G : mj_G) (M : mj_M) (s kp kc : Nat) (w : Nat → Nat) (z1 : Int) : Prop := lq_DA G w ∧ lq_DB M w ∧ lq_Dk M kp kc w ∧ ∃ dn ds, lq_DN M w dn ds ∧ ((∀ k : Nat, k < 2 → z1 = (k : Int) → M.1 kc k = 0) → rd_E M (M.1 s) 0 w dn) ∧ (∀ k : Nat, k < 2 → z1 = (k : Int) → M.1 kc k ≠ 0 → rd_E M (M.1 kp) (538 * k) w dn)
theorem lq_D.re1 {W : List (Nat × Nat × Nat)} (h : lq_D G M s kp kc w) (hA : lq_A G w) (hB : lq_B M w x) (gud : G ud = (1009, 0)) (es : M'.1 s = M.1 s) (ek : M'.1 kp = M.1 kp) (ec : M'.1 kc = M.1 kc) (f : ab_frm W G M M') (cW : lq_Dx W) (ry : lq_ry G M M' kc ud w z1) : lq_Dr G M' s kp kc w z1 := by
  obtain ⟨p, q, hN, i0, i1⟩ := ry
  obtain ⟨hDA, hDB, ⟨dn, ds, hDN, hE⟩, hk⟩ := h
  obtain ⟨hDB', hDN'⟩ := hDB.fr hDA hA f cW
  have hn := hDN.nin
  refine ⟨hDA, hDB', ?_⟩
  by_cases hz : ∃ k : Nat, k < 2 ∧ z1 = (k : Int) ∧ M.1 kc k ≠ 0
  · obtain ⟨k0, hk0, e0, hc0⟩ := hz
    obtain ⟨st, M1, e1, e9, -, -, cr⟩ := i1 k0 hk0 e0 hc0
    have est := hB.sk hk0 e9
    subst est
    obtain ⟨c1, c2, c3⟩ := cr _ _ _ _ _ _ _ _ (hDB.D hDA (lq_di_in k0)) (hDB.D hDA hn.1) (hDB.2 k0 hk0) hDN.1
    have ne : ∀ {a t n : Nat}, G a = (t, n) → t ≠ 1009 → M'.1 a = M1.1 a := fun g h1 => by rw [e1]; exact wz_c (hn_ne g gud h1)
    have keep : ∀ D, D ∈ lq_Dl → D ≠ dn → ∀ v, v < 4 → M'.1 (w (D + v)) = M.1 (w (D + v)) := fun D hD hne v hv => by
      obtain ⟨t, n, g, ht⟩ := hDA.gv hD hv
      have hne2 := lq_Dl.ne hA hD hn.1 hne hv
      exact (ne g (by omega)).trans (c3 _ (by rw [g]; exact ht) (hne2 (show 0 < 4 by decide)) (hne2 (by decide)) (hne2 (by decide)) (hne2 (by decide)))
    refine ⟨fun k hk2 h0 => ?_, dn, ds, hDN' _ _ hDN, fun hno => absurd (by rw [← ec]; exact hno k0 hk0 e0) hc0, fun k hk2 hz2 h0 => ?_⟩
    · rw [ec] at h0; rw [ek]
      exact (hk k hk2 h0).cg (keep _ (lq_di_in k) (fun e => hn.2.2.2.1 k e.symm)) (fun _ _ => rfl)
    · obtain rfl : k = k0 := by omega
      obtain ⟨g0, g1, g2, g3⟩ := hDA _ hn.1
      rw [ek]
      refine (hk k hk0 hc0).cg2 (fun j hj => ?_) ?_ (fun j _ => rfl)
      · rw [ne g1 (by decide), ne g2 (by decide), ne g3 (by decide)]
        exact c1 j hj
      · rw [ne g0 (by decide)]; exact c2
  · have hno : ∀ k : Nat, k < 2 → z1 = (k : Int) → M.1 kc k = 0 := fun k hk2 e => Classical.byContradiction (fun z => hz ⟨k, hk2, e, z⟩)
    have e := i0 hno
    subst e
    exact ⟨hk, dn, ds, hDN, fun _ => hE, fun k hk2 e h0 => absurd (hno k hk2 e) h0⟩
theorem lq_Dr.re2 {ik : Nat} {W : List (Nat × Nat × Nat)} (h : lq_Dr G M s kp kc w z1) (hA : lq_A G w) (gk : G kp = (70100, 1076)) (gc : G kc = (48102, 2)) (f : ab_frm W G M M') (cW : ∀ q ∈ W, q.1 ≠ 1002 ∧ q.1 ≠ 16100 ∧ q.1 ≠ 17100 ∧ q.1 ≠ 18100 ∧ q.1 ≠ 1007 ∧ q.1 ≠ 70100 ∧ q.1 ≠ 48102) (mk : ∀ k, k < 2 → M.1 kc k = M.1 ik k) (o : ((¬ (0 ≤ z1 ∧ z1 ≤ 1) ∨ M.1 ik z1.toNat = 0) ∧ M'.1 s = M.1 s) ∨ (∃ k : Nat, k ≤ 1 ∧ z1 = (k : Int) ∧ M.1 ik k ≠ 0 ∧ (∀ p, p < 537 → M'.1 s p = M.1 kp (538 * k + p)))) : lq_D G M' s kp kc w := by
  obtain ⟨hDA, hDB, hk, dn, ds, hDN, h1, h2⟩ := h
  obtain ⟨hDB', hDN'⟩ := hDB.fr hDA hA f (fun q hq => ⟨Or.inl (cW q hq).1, Or.inl (cW q hq).2.2.2.2.1⟩)
  have hn := hDN.nin
  have fr : ∀ {a t n : Nat} (k : Nat), G a = (t, n) → (∀ q ∈ W, q.1 ≠ t) → M'.1 a k = M.1 a k := fun k g hh => (f _ k (by rw [g]; rintro ⟨r, hr, e1, e2, e3⟩; exact hh r hr e1)).1
  have ev : ∀ D, D ∈ lq_Dl → ∀ v, v < 4 → M'.1 (w (D + v)) = M.1 (w (D + v)) := fun D hD v hv => funext fun k => by
    obtain ⟨t, n, g, ht⟩ := hDA.gv hD hv
    exact fr k g (fun q hq => by have c := cW q hq; omega)
  have ek : M'.1 kp = M.1 kp := funext fun k => fr k gk (fun q hq => (cW q hq).2.2.2.2.2.1)
  have ec : M'.1 kc = M.1 kc := funext fun k => fr k gc (fun q hq => (cW q hq).2.2.2.2.2.2)
  refine ⟨hDA, hDB', ⟨dn, ds, hDN' _ _ hDN, ?_⟩, fun k hk2 h0 => ?_⟩
  · rcases o with ⟨oz, oe⟩ | ⟨k0, o1, o2, o3, o4⟩
    · have hno : ∀ k : Nat, k < 2 → z1 = (k : Int) → M.1 kc k = 0 := fun k hk2 e => by
        rcases oz with oz | oz
        · omega
        · rw [mk k hk2, show k = z1.toNat by omega]; exact oz
      exact (h1 hno).cg (ev dn hn.1) (fun j _ => by rw [oe])
    · have hc1 : M.1 kc k0 ≠ 0 := by rw [mk k0 (by omega)]; exact o3
      exact (h2 k0 (by omega) o2 hc1).cg (ev dn hn.1) (fun j hj => by rw [Nat.zero_add]; exact o4 _ (by omega))
  · rw [ec] at h0; rw [ek]
    exact (hk k hk2 h0).cg (ev _ (lq_di_in k)) (fun _ _ => rfl)
/-- CONTRACTS R with r rows, as the class keeps them -/
def rd_R (M : mj_M) (R : Nat → Int) (r : Nat) (w : Nat → Nat) (D : Nat) : Prop := (∀ j, j < 12 → M.1 (w (D + 1)) j = R (3 * j) - 1 ∧ M.1 (w (D + 2)) j = R (3 * j + 1) - 1 ∧ M.1 (w (D + 3)) j = R (3 * j + 2)) ∧ M.1 (w D) 3 = (r : Int)
def lq_Dc (G : mj_G) (M : mj_M) (s kp kc : Nat) (w : Nat → Nat) (y : rv_Od) : Prop := lq_DA G w ∧ lq_DB M w ∧ lq_Dk M kp kc w ∧ (∀ e, y = .inl e → ∃ dn ds, lq_DN M w dn ds ∧ rd_E M (M.1 s) 0 w dn) ∧ (∀ R r, y = .inr (R, r) → ∃ dn ds, lq_DN M w dn ds ∧ rd_R M R r w dn)
set_option maxRecDepth 100000 in
theorem lq_D.ct1 {y : rv_Od} (h : lq_D G M s kp kc w) (hA : lq_A G w) (gx : G x = (1011, 0)) (gtp : G tp = (1008, 0)) (gs : G s = (51100, 537)) (gk : G kp = (70100, 1076)) (gc : G kc = (48102, 2)) (cy : lq_cy G M M' x tp s w y) : lq_Dc G M' s kp kc w y := by
  obtain ⟨p, q, dn', dl, fa, sa, ca, oa, hN, goa, ⟨⟨-, -, -, ⟨gdl, gfa, gsa, gca, d0, d1, d2⟩, -⟩, x0, x1, x2, x_sp1, x_nw1, x_nw0⟩, fr, fq, hF, hO⟩ := cy
  obtain ⟨hDA, hDB, ⟨dn, ds, hDN, hE⟩, hk⟩ := h
  have hn := hDN.nin
  obtain ⟨gp, -, -, -, gpw, gpt, gpb⟩ := hA.2.1 p hN.pin.1
  have edn : dn' = w dn := Option.some.inj (x_nw1.symm.trans hDN.1)
  have edl : dl = w ds := Option.some.inj (x_sp1.symm.trans hDN.2.1)
  have efa : fa = w (ds + 1) := Option.some.inj (d0.symm.trans (by rw [edl]; exact (hDB.1 ds hn.2.1).1))
  have esa : sa = w (ds + 2) := Option.some.inj (d1.symm.trans (by rw [edl]; exact (hDB.1 ds hn.2.1).2.1))
  have eca : ca = w (ds + 3) := Option.some.inj (d2.symm.trans (by rw [edl]; exact (hDB.1 ds hn.2.1).2.2))
  have tg : ∀ {a t u : Nat}, G a = (t, u) → t ≠ 1004 → t ≠ 26100 → t ≠ 28100 → t ≠ 29100 → t ≠ 30100 → t ≠ 1011 → t ≠ 1008 → a ≠ dl → a ≠ fa → a ≠ sa → a ≠ ca → M'.1 a = M.1 a := fun ga n1 n4 n6 n7 n8 n9 n10 m1 m2 m3 m4 => fr _ (hn_ne ga gx n9) (hn_ne ga gtp n10) m1 m2 m3 m4 (hn_ne ga gp n1) (hn_ne ga gpw n7) (hn_ne ga goa n8) (fun t ht => hn_ne ga (gpt t ht) n4) (fun t ht => hn_ne ga (gpb t ht) n6)
  have tk : ∀ {a t u : Nat}, G a = (t, u) → t ≠ 1004 → t ≠ 26100 → t ≠ 28100 → t ≠ 29100 → t ≠ 30100 → t ≠ 1011 → t ≠ 1008 → t ≠ 1002 → t ≠ 16100 → t ≠ 17100 → t ≠ 18100 → M'.1 a = M.1 a := fun ga n1 n4 n6 n7 n8 n9 n10 m1 m2 m3 m4 => tg ga n1 n4 n6 n7 n8 n9 n10 (hn_ne ga gdl m1) (hn_ne ga gfa m2) (hn_ne ga gsa m3) (hn_ne ga gca m4)
  have es : M'.1 s = M.1 s := tk gs (by decide) (by decide) (by decide) (by decide) (by decide) (by decide) (by decide) (by decide) (by decide) (by decide) (by decide)
  have ek : M'.1 kp = M.1 kp := tk gk (by decide) (by decide) (by decide) (by decide) (by decide) (by decide) (by decide) (by decide) (by decide) (by decide) (by decide)
  have ec : M'.1 kc = M.1 kc := tk gc (by decide) (by decide) (by decide) (by decide) (by decide) (by decide) (by decide) (by decide) (by decide) (by decide) (by decide)
  have keep : ∀ D, D ∈ lq_Dl → D ≠ ds → ∀ v, v < 4 → M'.1 (w (D + v)) = M.1 (w (D + v)) := fun D hD hne v hv => by
    obtain ⟨t, n, g, ht⟩ := hDA.gv hD hv
    have hne2 := lq_Dl.ne hA hD hn.2.1 hne hv
    exact tg g (by omega) (by omega) (by omega) (by omega) (by omega) (by omega) (by omega) (by rw [edl]; exact hne2 (show 0 < 4 by decide)) (by rw [efa]; exact hne2 (by decide)) (by rw [esa]; exact hne2 (by decide)) (by rw [eca]; exact hne2 (by decide))
  have rf : ∀ {a t u : Nat} (j : Nat), G a = (t, u) → t ≠ 1008 → (t ≠ 1007 ∨ a ≠ w 29 ∧ a ≠ w 74) → M'.2.2 a j = M.2.2 a j := fun j g h1 h2 => fq _ j (fun e => hn_ne g gtp h1 e.1) (fun e => h2.elim (fun z => hn_ne g hA.2.2.1 z e.1) (fun z => z.1 e.1)) (fun e => h2.elim (fun z => hn_ne g hA.2.2.2.1 z e.1) (fun z => z.2 e.1))
  have wn : ∀ i j, i < 361 → j < 361 → i ≠ j → w i ≠ w j := fun i j hi hj hne e => hne (hA.1 i j hi hj e)
  have hDB' : lq_DB M' w := hDB.cg (fun D hD k _ => rf k (hDA D hD).1 (by decide) (Or.inl (by decide))) (fun i hi => by
    rcases hi with z | z <;> subst z
    · exact rf 1 hA.2.2.2.2.1 (by decide) (Or.inr ⟨wn _ _ (by decide) (by decide) (by decide), wn _ _ (by decide) (by decide) (by decide)⟩)
    · exact rf 1 hA.2.2.2.2.2.1 (by decide) (Or.inr ⟨wn _ _ (by decide) (by decide) (by decide), wn _ _ (by decide) (by decide) (by decide)⟩))
  refine ⟨hDA, hDB', fun k hk2 h0 => ?_, fun e ey => ?_, fun R r ey => ?_⟩
  · rw [ec] at h0; rw [ek]
    exact (hk k hk2 h0).cg (keep _ (lq_di_in k) (fun e => hn.2.2.2.2 k e.symm)) (fun _ _ => rfl)
  · obtain ⟨f1, f2⟩ := hF e ey
    exact ⟨dn, ds, ⟨f1.trans (by rw [edn]), f2.trans (by rw [edl]), hDN.2.2⟩, hE.cg (keep dn hn.1 hn.2.2.1) (fun j _ => by rw [es])⟩
  · obtain ⟨-, o1, o2, o3, o4⟩ := hO R r ey
    refine ⟨ds, dn, ⟨o1.trans (by rw [edl]), o2.trans (by rw [edn]), hDN.2.2.symm.imp (fun z => ⟨z.2, z.1⟩) (fun z => ⟨z.2, z.1⟩)⟩, fun j hj => ?_, ?_⟩
    · rw [← efa, ← esa, ← eca]; exact o3 j hj
    · rw [← edl]; exact o4
theorem lq_Dc.ct2 {y : rv_Od} {W : List (Nat × Nat × Nat)} (h : lq_Dc G M s kp kc w y) (hA : lq_A G w) (gk : G kp = (70100, 1076)) (gc : G kc = (48102, 2)) (f : ab_frm W G M M') (cW : ∀ q ∈ W, q.1 ≠ 1002 ∧ q.1 ≠ 16100 ∧ q.1 ≠ 17100 ∧ q.1 ≠ 18100 ∧ q.1 ≠ 1007 ∧ q.1 ≠ 70100 ∧ q.1 ≠ 48102) (o1 : ∀ e, y = .inl e → M'.1 s = M.1 s) (o2 : ∀ R r, y = .inr (R, r) → rq_O s R r M M') : lq_D G M' s kp kc w := by
  obtain ⟨hDA, hDB, hk, h1, h2⟩ := h
  obtain ⟨hDB', hDN'⟩ := hDB.fr hDA hA f (fun q hq => ⟨Or.inl (cW q hq).1, Or.inl (cW q hq).2.2.2.2.1⟩)
  have fr : ∀ {a t n : Nat} (k : Nat), G a = (t, n) → (∀ q ∈ W, q.1 ≠ t) → M'.1 a k = M.1 a k := fun k g hh => (f _ k (by rw [g]; rintro ⟨r, hr, e1, e2, e3⟩; exact hh r hr e1)).1
  have ev : ∀ D, D ∈ lq_Dl → ∀ v, v < 4 → M'.1 (w (D + v)) = M.1 (w (D + v)) := fun D hD v hv => funext fun k => by
    obtain ⟨t, n, g, ht⟩ := hDA.gv hD hv
    exact fr k g (fun q hq => by have c := cW q hq; omega)
  have ek : M'.1 kp = M.1 kp := funext fun k => fr k gk (fun q hq => (cW q hq).2.2.2.2.2.1)
  have ec : M'.1 kc = M.1 kc := funext fun k => fr k gc (fun q hq => (cW q hq).2.2.2.2.2.2)
  refine ⟨hDA, hDB', ?_, fun k hk2 h0 => ?_⟩
  · rcases y with e | ⟨R, r⟩
    · obtain ⟨dn, ds, hDN, hE⟩ := h1 e rfl
      exact ⟨dn, ds, hDN' _ _ hDN, hE.cg (ev dn hDN.nin.1) (fun j _ => by rw [o1 e rfl])⟩
    · obtain ⟨dn, ds, hDN, hE1, hE2⟩ := h2 R r rfl
      obtain ⟨z1, z2, -⟩ := o2 R r rfl
      have hn := hDN.nin.1
      refine ⟨dn, ds, hDN' _ _ hDN, fun j hj => ?_, ?_⟩
      · obtain ⟨a1, a2, a3⟩ := hE1 j hj
        rw [ev dn hn 1 (by decide), ev dn hn 2 (by decide), ev dn hn 3 (by decide), a1, a2, a3, Nat.zero_add, Nat.zero_add, Nat.zero_add, z1 (3 * j) (by omega), show 185 + 3 * j = 184 + (3 * j + 1) by omega, z1 (3 * j + 1) (by omega), show 186 + 3 * j = 184 + (3 * j + 2) by omega, z1 (3 * j + 2) (by omega)]
        exact ⟨rfl, rfl, rfl⟩
      · have e0 := ev dn hn 0 (by decide)
        rw [Nat.add_zero] at e0
        rw [e0, hE2, Nat.zero_add]; exact z2.symm
  · rw [ec] at h0; rw [ek]
    exact (hk k hk2 h0).cg (ev _ (lq_di_in k)) (fun _ _ => rfl)
end DF
