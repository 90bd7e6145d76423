/-! ===== CONTRACTS through plain, image, restore ===== -/
section DE
variable {G : mj_G} {M M' : mj_M} {x s m kp kc tp ud : Nat} {w : Nat → Nat} {z1 : Int}
theorem lq_Dl.ne (hA : lq_A G w) {D D' : Nat} (hD : D ∈ lq_Dl) (hD' : D' ∈ lq_Dl) (h : D ≠ D') {u : Nat} (hu : u < 4) : ∀ ⦃v : Nat⦄, v < 4 → w (D + u) ≠ w (D' + v) := fun v hv e => by
  have h1 := lq_Dl4 hD
  have h2 := lq_Dl4 hD'
  have := hA.1 _ _ (by omega) (by omega) e
  omega
theorem lq_DB.D (hB : lq_DB M w) (hA : lq_DA G w) {D : Nat} (hD : D ∈ lq_Dl) : rv_D G M (w D) (w (D + 1)) (w (D + 2)) (w (D + 3)) := ⟨(hA D hD).1, (hA D hD).2.1, (hA D hD).2.2.1, (hA D hD).2.2.2, (hB.1 D hD).1, (hB.1 D hD).2.1, (hB.1 D hD).2.2⟩
theorem lq_DB.cg (hB : lq_DB M w) (r : ∀ D, D ∈ lq_Dl → ∀ k, k < 3 → M'.2.2 (w D) k = M.2.2 (w D) k) (r1 : ∀ i, i = 246 ∨ i = 291 → M'.2.2 (w i) 1 = M.2.2 (w i) 1) : lq_DB M' w := ⟨fun D hD => ⟨(r D hD 0 (by decide)).trans (hB.1 D hD).1, (r D hD 1 (by decide)).trans (hB.1 D hD).2.1, (r D hD 2 (by decide)).trans (hB.1 D hD).2.2⟩, fun k hk2 => (r1 _ (by unfold lq_sk; split <;> omega)).trans (hB.2 k hk2)⟩
/-- no CONTRACTS -/
def rd_0 (M : mj_M) (w : Nat → Nat) (D : Nat) : Prop := (∀ j, j < 12 → M.1 (w (D + 1)) j = -1 ∧ M.1 (w (D + 2)) j = -1 ∧ M.1 (w (D + 3)) j = 0) ∧ M.1 (w D) 3 = 0
def lq_Dq (G : mj_G) (M : mj_M) (s kp kc : Nat) (w : Nat → Nat) (y : rv_Om) : Prop := lq_DA G w ∧ lq_DB M w ∧ lq_Dk M kp kc w ∧ (∀ e, y = .inl e → ∃ dn ds, lq_DN M w dn ds ∧ rd_E M (M.1 s) 0 w dn) ∧ (∀ e, y = .inr e → ∃ dn ds, lq_DN M w dn ds ∧ rd_0 M w dn)
set_option maxRecDepth 100000 in
theorem lq_D.pl1 {y : rv_Om} (h : lq_D G M s kp kc w) (hA : lq_A G w) (gx : G x = (1011, 0)) (gtp : G tp = (1008, 0)) (gs : G s = (51100, 537)) (gk : G kp = (70100, 1076)) (gc : G kc = (48102, 2)) (py : lq_py G M M' x tp w y) : lq_Dq G M' s kp kc w y := by
  obtain ⟨p, q, oa, dl, fa, sa, ca, se, ye, ud, hN, goa, hX, hF, hO⟩ := py
  obtain ⟨⟨-, g74, g29, gse, gye, gud, gdl, gfa, gsa, gca, d0, d1, d2⟩, x_x0, x_x1, x_x2, x_x5, x_sp0, x_nw0, x_nw1, x_nw2, x_nw3⟩ := id hX
  obtain ⟨gq, gqn, -, -, gqw, gqt, gqb⟩ := hA.2.1 q hN.qin.1
  have hDA := h.1
  rcases y with e | ⟨PL, WA, OA, TO, BI, nm, r⟩
  · obtain ⟨⟨f2, fl, f1⟩, -⟩ := hF e rfl
    have tg : ∀ {a t u : Nat}, G a = (t, u) → t ≠ 1004 → t ≠ 26100 → t ≠ 28100 → t ≠ 29100 → t ≠ 30100 → t ≠ 1011 → t ≠ 1008 → M'.1 a = M.1 a := fun ga n1 n4 n6 n7 n8 n9 n10 => f1 _ (hn_ne ga gx n9) (hn_ne ga gtp n10) (hn_ne ga gq n1) (hn_ne ga gqw n7) (hn_ne ga goa n8) (fun t ht => hn_ne ga (gqt t ht) n4) (fun t ht => hn_ne ga (gqb t ht) n6)
    have rf : ∀ {a t u : Nat} (j : Nat), G a = (t, u) → t ≠ 1008 → M'.2.2 a j = M.2.2 a j := fun j g h1 => f2 _ j (fun e => hn_ne g gtp h1 e.1)
    obtain ⟨v1, v2, v3, v4⟩ := h.cg (M' := M') (fun D hD k _ => rf k (hDA D hD).1 (by decide)) (fun i hi => rf 1 (show G (w i) = (1007, 0) by rcases hi with z | z | z | z <;> subst z <;> first | exact g29 | exact g74 | exact hA.2.2.2.2.1 | exact hA.2.2.2.2.2.1) (by decide)) (fun dn ds _ D hD _ v hv => by
      obtain ⟨t, n, g, ht⟩ := hDA.gv hD hv
      exact tg g (by omega) (by omega) (by omega) (by omega) (by omega) (by omega) (by omega)) (fun j _ => congrFun (tg gs (by decide) (by decide) (by decide) (by decide) (by decide) (by decide) (by decide)) _) (tg gk (by decide) (by decide) (by decide) (by decide) (by decide) (by decide) (by decide)) (tg gc (by decide) (by decide) (by decide) (by decide) (by decide) (by decide) (by decide))
    exact ⟨v1, v2, v4, fun _ _ => v3, fun _ e => by cases e⟩
  · obtain ⟨⟨o1, o2, o3, o4, o5, o6, o7, o8, o9, fo⟩, u1, u2, u3, u4, u5, u6, -⟩ := hO _ _ _ _ _ _ _ rfl
    obtain ⟨-, hB, ⟨dn, ds, hDN, hE⟩, hk⟩ := h
    have hn := hDN.nin
    have edl : dl = w dn := Option.some.inj (x_nw1.symm.trans hDN.1)
    have efa : fa = w (dn + 1) := Option.some.inj (d0.symm.trans (by rw [edl]; exact (hB.1 dn hn.1).1))
    have esa : sa = w (dn + 2) := Option.some.inj (d1.symm.trans (by rw [edl]; exact (hB.1 dn hn.1).2.1))
    have eca : ca = w (dn + 3) := Option.some.inj (d2.symm.trans (by rw [edl]; exact (hB.1 dn hn.1).2.2))
    have rf : ∀ {a t u : Nat} (j : Nat), G a = (t, u) → t ≠ 1008 → (t ≠ 1007 ∨ j ≠ 0) → M'.2.2 a j = M.2.2 a j := fun j g h1 h2 => o8 _ j (fun e => hn_ne g gtp h1 e.1) (fun e => h2.elim (fun z => hn_ne g g29 z e.1) (fun z => z e.2)) (fun e => h2.elim (fun z => hn_ne g g74 z e.1) (fun z => z e.2))
    have tg : ∀ {a t u : Nat}, G a = (t, u) → t ≠ 1004 → t ≠ 26100 → t ≠ 28100 → t ≠ 29100 → t ≠ 30100 → t ≠ 1011 → t ≠ 1008 → t ≠ 1006 → t ≠ 1010 → t ≠ 1009 → a ≠ dl → a ≠ fa → a ≠ sa → a ≠ ca → M'.1 a = M.1 a := fun ga n1 n4 n6 n7 n8 n9 n10 m5 m6 m7 m1 m2 m3 m4 => fo _ (hn_ne ga gx n9) (hn_ne ga gtp n10) (hn_ne ga gq n1) (hn_ne ga gqw n7) (hn_ne ga goa n8) (fun t ht => hn_ne ga (gqt t ht) n4) (fun t ht => hn_ne ga (gqb t ht) n6) m1 m2 m3 m4 (hn_ne ga gse m5) (hn_ne ga gye m6) (hn_ne ga gud m7)
    have ek : M'.1 kp = M.1 kp := tg gk (by decide) (by decide) (by decide) (by decide) (by decide) (by decide) (by decide) (by decide) (by decide) (by decide) (hn_ne gk gdl (by decide)) (hn_ne gk gfa (by decide)) (hn_ne gk gsa (by decide)) (hn_ne gk gca (by decide))
    have ec : M'.1 kc = M.1 kc := tg gc (by decide) (by decide) (by decide) (by decide) (by decide) (by decide) (by decide) (by decide) (by decide) (by decide) (hn_ne gc gdl (by decide)) (hn_ne gc gfa (by decide)) (hn_ne gc gsa (by decide)) (hn_ne gc gca (by decide))
    refine ⟨hDA, hB.cg (fun D hD k _ => rf k (hDA D hD).1 (by decide) (Or.inl (by decide))) (fun i hi => rf 1 (show G (w i) = (1007, 0) by rcases hi with z | z <;> subst z <;> first | exact hA.2.2.2.2.1 | exact hA.2.2.2.2.2.1) (by decide) (Or.inr (by decide))), fun k hk2 h0 => ?_, (fun _ e => by cases e), fun _ _ => ⟨dn, ds, ⟨(rf 1 g29 (by decide) (Or.inr (by decide))).trans hDN.1, (rf 1 g74 (by decide) (Or.inr (by decide))).trans hDN.2.1, hDN.2.2⟩, fun j hj => ?_, ?_⟩⟩
    · rw [ec] at h0; rw [ek]
      refine (hk k hk2 h0).cg (fun v hv => ?_) (fun _ _ => rfl)
      obtain ⟨t, n, g, ht⟩ := hDA.gv (lq_di_in k) hv
      have hne := lq_Dl.ne hA (lq_di_in k) hn.1 (fun z => hn.2.2.2.1 k z.symm) hv
      exact tg g (by omega) (by omega) (by omega) (by omega) (by omega) (by omega) (by omega) (by omega) (by omega) (by omega) (by rw [edl]; exact hne (show 0 < 4 by decide)) (by rw [efa]; exact hne (by decide)) (by rw [esa]; exact hne (by decide)) (by rw [eca]; exact hne (by decide))
    · rw [← efa, ← esa, ← eca]; exact u5 j hj
    · rw [← edl]; exact u6
theorem lq_Dq.pl2 {y : rv_Om} {W : List (Nat × Nat × Nat)} (h : lq_Dq G M s kp kc w y) (hA : lq_A G w) (gk : G kp = (70100, 1076)) (gc : G kc = (48102, 2)) (f : ab_frm W G M M') (cW : ∀ q ∈ W, q.1 ≠ 1002 ∧ q.1 ≠ 16100 ∧ q.1 ≠ 17100 ∧ q.1 ≠ 18100 ∧ q.1 ≠ 1007 ∧ q.1 ≠ 70100 ∧ q.1 ≠ 48102) (o1 : ∀ e, y = .inl e → M'.1 s = M.1 s) (o2 : ∀ e, y = .inr e → ∀ j, j < 37 → M'.1 s (184 + j) = 0) : lq_D G M' s kp kc w := by
  obtain ⟨hDA, hB, hk, h1, h2⟩ := h
  have fr : ∀ {a t n : Nat} (k : Nat), G a = (t, n) → (∀ q ∈ W, q.1 ≠ t) → M'.1 a k = M.1 a k ∧ M'.2.2 a k = M.2.2 a k := fun k g hh => f _ k (by rw [g]; rintro ⟨r, hr, e1, e2, e3⟩; exact hh r hr e1)
  have r7 : ∀ i, G (w i) = (1007, 0) → M'.2.2 (w i) 1 = M.2.2 (w i) 1 := fun i g => (fr 1 g (fun q hq => (cW q hq).2.2.2.2.1)).2
  have ev : ∀ D, D ∈ lq_Dl → ∀ v, v < 4 → M'.1 (w (D + v)) = M.1 (w (D + v)) := fun D hD v hv => funext fun k => by
    obtain ⟨t, n, g, ht⟩ := hDA.gv hD hv
    refine (fr k g (fun q hq => ?_)).1
    have c := cW q hq
    omega
  have ek : M'.1 kp = M.1 kp := funext fun k => (fr k gk (fun q hq => (cW q hq).2.2.2.2.2.1)).1
  have ec : M'.1 kc = M.1 kc := funext fun k => (fr k gc (fun q hq => (cW q hq).2.2.2.2.2.2)).1
  refine ⟨hDA, hB.cg (fun D hD k _ => (fr k (hDA D hD).1 (fun q hq => (cW q hq).1)).2) (fun i hi => r7 i (by rcases hi with z | z <;> subst z <;> first | exact hA.2.2.2.2.1 | exact hA.2.2.2.2.2.1)), ?_, fun k hk2 h0 => ?_⟩
  · rcases y with e | e
    · obtain ⟨dn, ds, hN, hE⟩ := h1 e rfl
      exact ⟨dn, ds, ⟨(r7 29 hA.2.2.1).trans hN.1, (r7 74 hA.2.2.2.1).trans hN.2.1, hN.2.2⟩, hE.cg (ev dn hN.nin.1) (fun j _ => by rw [o1 e rfl])⟩
    · obtain ⟨dn, ds, hN, hE1, hE2⟩ := h2 e rfl
      have hn := hN.nin.1
      have z := o2 e rfl
      refine ⟨dn, ds, ⟨(r7 29 hA.2.2.1).trans hN.1, (r7 74 hA.2.2.2.1).trans hN.2.1, hN.2.2⟩, fun j hj => ?_, ?_⟩
      · obtain ⟨a1, a2, a3⟩ := hE1 j hj
        rw [ev dn hn 1 (by decide), ev dn hn 2 (by decide), ev dn hn 3 (by decide), a1, a2, a3, Nat.zero_add, Nat.zero_add, Nat.zero_add, z (3 * j) (by omega), show 185 + 3 * j = 184 + (1 + 3 * j) by omega, z (1 + 3 * j) (by omega), show 186 + 3 * j = 184 + (2 + 3 * j) by omega, z (2 + 3 * j) (by omega)]
        decide
      · have e0 := ev dn hn 0 (by decide)
        rw [Nat.add_zero] at e0
        rw [e0, hE2]; exact (z 36 (by decide)).symm
  · rw [ec] at h0; rw [ek]
    exact (hk k hk2 h0).cg (ev _ (lq_di_in k)) (fun _ _ => rfl)
end DE
