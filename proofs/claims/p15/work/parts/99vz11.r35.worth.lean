/-! ===== the class's worth: the PLAIN now stays ===== -/
def lw_w3 (a b c : Nat) : Nat → Option Nat := fun i => match i with
  | 0 => some a
  | 1 => some b
  | _ => some c
theorem lw_R3 {G : mj_G} {a b c t t' t'' n : Nat} {f : Nat → Int} (ha : G a = (t, 0)) (hb : G b = (t', 0)) (hc : G c = (t'', 0)) (h : t ≠ 0 ∧ t ≠ 1 ∧ t ≠ 50 ∧ t' ≠ 0 ∧ t' ≠ 1 ∧ t' ≠ 50 ∧ t'' ≠ 0 ∧ t'' ≠ 1 ∧ t'' ≠ 50) : ab_RR (n, f, 3, lw_w3 a b c) G [(t, 0), (t', 0), (t'', 0)] := ⟨rfl, fun i q e => by
  cases i with
  | zero =>
    cases e
    exact Or.inr (Or.inr (Or.inr ⟨h.1, h.2.1, h.2.2.1, a, rfl, ha⟩))
  | succ i => cases i with
    | zero =>
      cases e
      exact Or.inr (Or.inr (Or.inr ⟨h.2.2.2.1, h.2.2.2.2.1, h.2.2.2.2.2.1, b, rfl, hb⟩))
    | succ i => cases i with
      | zero =>
        cases e
        exact Or.inr (Or.inr (Or.inr ⟨h.2.2.2.2.2.2.1, h.2.2.2.2.2.2.2.1, h.2.2.2.2.2.2.2.2, c, rfl, hc⟩))
      | succ i => cases e⟩
theorem r_goOn {G : mj_G} {M : mj_M} {ye pl dl : Nat} {z : Int} {Q : mj_P} (hI : ab_Inv G M) (gye : G ye = (2010, 0)) (gpl : G pl = (1004, 0)) (gdl : G dl = (1002, 0)) (hz : 0 ≤ z ∧ z ≤ 12) (hQ : ∀ M', ab_Inv G M' → ab_frm (ab_w cd_222) G M M' → Q none G M') : mj_R mj_tab 38 93 [.inr (.inr (some ye)), .inr (.inr (some pl)), .inr (.inr (some dl)), .inl z] G M Q := by
  refine ab_all_ok 223 (Nat.le_refl _) 148 (by decide) 37 (by decide +kernel) G M (1, hn_g [z], 3, lw_w3 ye pl dl) _ Q (hn_Y1 hz) (lw_R3 gye gpl gdl (by decide)) (fun e he => by cases he) ⟨_, _, rfl, ⟨Nat.le_of_ble_eq_true rfl, rfl⟩, _, _, rfl, ⟨Nat.le_of_ble_eq_true rfl, rfl⟩, _, _, rfl, ⟨Nat.le_of_ble_eq_true rfl, rfl⟩, _, _, rfl, ⟨_, rfl, hn_I (Nat.le_of_ble_eq_true rfl) rfl⟩, rfl⟩ hI (fun r M' i f ⟨po, hpo, h⟩ => ?_)
  cases hpo with
  | head =>
    have hr : r = none := h.1
    rw [hr]; exact hQ M' i f
  | tail _ hpo => cases hpo
theorem rv_no_W {G : mj_G} {M M' : mj_M} {W : List (Nat × Nat × Nat)} (f : ab_frm W G M M') (key : ∀ q ∈ W, q.1 = 2010 ∨ q.1 = 73100 ∨ q.1 = 74100 ∨ q.1 = 75100 ∨ q.1 = 77100) (a k : Nat) (hn : rv_no (G a).1 ∨ (G a).1 = 1002) : M'.1 a k = M.1 a k ∧ M'.2.2 a k = M.2.2 a k := f a k (fun ⟨q, hq, g, _⟩ => by
  have hk := key q hq
  rw [g] at hk
  unfold rv_no at hn
  omega)
theorem r_tryY0 {G : mj_G} {M : mj_M} {x pl : Nat} {Q : mj_P} (hI : ab_Inv G M) (gx : G x = (1011, 0)) (gpl : G pl = (1004, 0)) (hQ : ∀ M', ab_Inv G M' → (∀ a k, rv_no (G a).1 → M'.1 a k = M.1 a k ∧ M'.2.2 a k = M.2.2 a k) → Q none G M') : mj_R mj_tab 39 153 [.inr (.inr (some x)), .inr (.inr (some pl))] G M Q := by
  obtain ⟨ye, x9, gye⟩ := hn_rf (k := 9) (q := (2010, 0)) hI gx rfl (by decide) (by decide) (by decide) (fun e => absurd e (by decide))
  obtain ⟨nw, x1, gnw⟩ := hn_rf (k := 1) (q := (1007, 0)) hI gx rfl (by decide) (by decide) (by decide) (fun e => absurd e (by decide))
  obtain ⟨dl, w1, gdl⟩ := hn_rf (k := 1) (q := (1002, 0)) hI gnw rfl (by decide) (by decide) (by decide) (fun e => absurd e (by decide))
  refine ⟨Nat.le_of_ble_eq_true rfl, ?_⟩
  show wz 38 mt_X11_tryYear.2.2.2.2.1 Q mt_X11_tryYear.2.2.2.2.1 [some (.inr (.inr (some x))), some (.inr (.inr (some pl)))] [] G M _ _
  refine w_aln rfl ?_
  refine w_gr gx rfl (by decide) rfl x9 ?_
  refine w_aln rfl ?_
  refine w_cv (st := []) rfl gye rfl (Nat.le_of_ble_eq_true rfl) (fun kk h => h) (lw_cc (c := cd_216) (dd := 37) (ab_all_ok 223 (Nat.le_refl _) 12 (by decide)) rfl (by decide +kernel) gye gpl (by decide) (by decide) (by decide) (by decide) (by decide) (by decide) (by decide +kernel) hI (fun M1 I1 f1 => ?_))
  have n1 := rv_no_W f1 (by decide +kernel)
  refine w_aln rfl ?_
  refine w_gr gx rfl (by decide) rfl ((n1 x 9 (Or.inl (by rw [gx]; unfold rv_no; decide))).2.trans x9) ?_
  refine w_aln rfl ?_
  refine w_aln rfl ?_
  refine w_gr gx rfl (by decide) rfl ((n1 x 1 (Or.inl (by rw [gx]; unfold rv_no; decide))).2.trans x1) ?_
  refine w_gr gnw rfl (by decide) rfl ((n1 nw 1 (Or.inl (by rw [gnw]; unfold rv_no; decide))).2.trans w1) ?_
  refine w_bp ?_
  refine w_cv (st := []) rfl gye rfl (Nat.le_of_ble_eq_true rfl) (fun kk h => h) (r_goOn I1 gye gpl gdl ⟨by decide, by decide⟩ (fun M2 I2 f2 => ?_))
  have n2 := rv_no_W f2 (by decide +kernel)
  exact w_ret (hQ M2 I2 (fun a k hn => ⟨(n2 a k (Or.inl hn)).1.trans (n1 a k (Or.inl hn)).1, (n2 a k (Or.inl hn)).2.trans (n1 a k (Or.inl hn)).2⟩))
theorem r_tryY {G : mj_G} {M : mj_M} {x pl : Nat} {Q : mj_P} (hI : ab_Inv G M) (gx : G x = (1011, 0)) (gpl : G pl = (1004, 0)) (hQ : ∀ M', ab_Inv G M' → (∀ a k, rv_no (G a).1 → M'.1 a k = M.1 a k ∧ M'.2.2 a k = M.2.2 a k) → ln G M M' → Q none G M') : mj_R mj_tab 39 153 [.inr (.inr (some x)), .inr (.inr (some pl))] G M Q := sn_ln (by decide +kernel) (r_tryY0 (Q := fun r G' M' => r = none ∧ ab_Inv G M' ∧ ∀ a k, rv_no (G a).1 → M'.1 a k = M.1 a k ∧ M'.2.2 a k = M.2.2 a k) hI gx gpl (fun M' i n => ⟨rfl, i, n⟩)) (fun r M' h l => by
  obtain ⟨rfl, i, n⟩ := h
  exact hQ M' i n l)
/-- what worth leaves: all but the spare PLAIN -/
def lq_u (G : mj_G) (w : Nat → Nat) (q : Nat) (M M' : mj_M) : Prop := (∀ a k, rv_no (G a).1 → M'.2.2 a k = M.2.2 a k) ∧ (∀ a, rv_no (G a).1 → (∀ j, j < 22 → a ≠ w (q + j)) → M'.1 a = M.1 a) ∧ (∀ a k, (G a).1 % 1000 = 103 → a ≠ w (q + 1) → M'.2.1 a k = M.2.1 a k)
theorem lq_u.tr {G : mj_G} {w : Nat → Nat} {q : Nat} {M M' M'' : mj_M} (h : lq_u G w q M M') (h' : lq_u G w q M' M'') : lq_u G w q M M'' := ⟨fun a k hn => (h'.1 a k hn).trans (h.1 a k hn), fun a hn hj => (h'.2.1 a hn hj).trans (h.2.1 a hn hj), fun a k hl hn => (h'.2.2 a k hl hn).trans (h.2.2 a k hl hn)⟩
section WO
variable {G : mj_G} {M : mj_M} {w : Nat → Nat} {x p q : Nat} {z1 : Int} {Q : mj_P}
theorem lq_N.qin (hN : lq_N M w p q) : q ∈ lq_Ps ∧ p ≠ q := by
  rcases hN.2.2 with ⟨rfl, rfl⟩ | ⟨rfl, rfl⟩
  · exact ⟨by decide, by decide⟩
  · exact ⟨by decide, by decide⟩
theorem lq_no29 (hA : lq_A G w) : rv_no (G (w 29)).1 ∧ rv_no (G (w 74)).1 := by
  rw [hA.2.2.1, hA.2.2.2.1]; unfold rv_no; decide
theorem ab_k32 : an_ok mj_tab 39 32 = true := by decide +kernel
theorem lq_B.no {M' : mj_M} (hB : lq_B M w x) (hA : lq_A G w) (gx : G x = (1011, 0)) (h : ∀ a k, rv_no (G a).1 → M'.2.2 a k = M.2.2 a k) : lq_B M' w x := by
  obtain ⟨h1, h2, h3, h4, h5, h6, h7, h8⟩ := hB
  have nx : rv_no (G x).1 := by rw [gx]; unfold rv_no; decide
  have n119 : rv_no (G (w 119)).1 := by rw [hA.2.2.2.2.2.2]; unfold rv_no; decide
  have n246 : rv_no (G (w 246)).1 := by rw [hA.2.2.2.2.1]; unfold rv_no; decide
  have n291 : rv_no (G (w 291)).1 := by rw [hA.2.2.2.2.2.1]; unfold rv_no; decide
  refine ⟨fun P hP => ?_, (h _ _ nx).trans h2, (h _ _ nx).trans h3, (h _ _ nx).trans h4, (h _ _ n119).trans h5, (h _ _ n119).trans h6, (h _ _ n246).trans h7, (h _ _ n291).trans h8⟩
  obtain ⟨g1, -, g3, g4, -⟩ := hA.2.1 P hP
  obtain ⟨b1, b2, b3, b4, b5, b6⟩ := h1 P hP
  have nP : rv_no (G (w P)).1 := by rw [g1]; unfold rv_no; decide
  have n2 : rv_no (G (w (P + 2))).1 := by rw [g3]; unfold rv_no; decide
  have n11 : rv_no (G (w (P + 11))).1 := by rw [g4]; unfold rv_no; decide
  exact ⟨(h _ _ nP).trans b1, (h _ _ nP).trans b2, (h _ _ nP).trans b3, (h _ _ nP).trans b4, fun t ht => (h _ _ n2).trans (b5 t ht), fun t ht => (h _ _ n11).trans (b6 t ht)⟩
theorem r_setBid0 {t k : Nat} {M1 : mj_M} (hA : lq_A G w) (hq : q ∈ lq_Ps) (r2 : M1.2.2 (w q) 2 = some (w (q + 11))) (rt : M1.2.2 (w (q + 11)) t = some (w (q + 12 + t))) (I1 : ab_Inv G M1) (ht : t < 8) (hk : k < 12) (hQ : ∀ M', ab_Inv G M' → lq_u G w q M1 M' → Q none G M') : mj_R mj_tab 39 47 [.inr (.inr (some (w q))), .inl (t : Int), .inl (k : Int), .inl 0] G M1 Q := by
  have h4 := lq_P4 hq
  obtain ⟨gq, -, -, gba, -, -, gbr⟩ := hA.2.1 q hq
  have gb := gbr t ht
  have noq : rv_no (G (w q)).1 := by rw [gq]; unfold rv_no; decide
  have noba : rv_no (G (w (q + 11))).1 := by rw [gba]; unfold rv_no; decide
  have tt : ((t : Int)).toNat = t := by omega
  refine ⟨Nat.le_of_ble_eq_true rfl, ?_⟩
  show wz 38 mt_X3_setBid.2.2.2.2.1 Q mt_X3_setBid.2.2.2.2.1 [some (.inr (.inr (some (w q)))), some (.inl (t : Int)), some (.inl (k : Int)), some (.inl 0)] [] G M1 _ _
  have tail : ∀ (M2 : mj_M) (cb sb : Nat), ab_Inv G M2 → lq_u G w q M1 M2 → wz 38 mt_X3_setBid.2.2.2.2.1 Q (mt_X3_setBid.2.2.2.2.1.drop 13) [some (.inr (.inr (some (w q)))), some (.inl (t : Int)), some (.inl (k : Int)), some (.inl 0)] [] G M2 cb sb := by
    intro M2 cb sb I2 u2
    refine w_iln rfl ?_
    refine w_ifle (fun _ => ?_) (fun c => absurd c (by decide))
    refine w_aln rfl ?_
    refine w_gr gq rfl (by decide) rfl ((u2.1 _ _ noq).trans r2) ?_
    refine w_iln rfl ?_
    refine w_aald (b := w (q + 12 + t)) gba rfl (by omega) (by show (t : Int) < ((8 : Nat) : Int); omega) (by rw [tt]; exact (u2.1 _ _ noba).trans rt) ?_
    refine w_iln rfl ?_
    refine w_iln rfl ?_
    refine w_iast gb rfl (by decide) (by omega) (by show (k : Int) < ((12 : Nat) : Int); omega) ?_
    refine w_ret (hQ _ (I2.p0 (by rw [gb]; exact hn_ii (z := 0) ⟨by decide, by decide⟩)) ⟨u2.1, fun a hn hj => (wz_c (fun e => hj (12 + t) (by omega) (by rw [e, Nat.add_assoc]))).trans (u2.2.1 a hn hj), u2.2.2⟩)
  refine w_aln rfl ?_
  refine w_gr gq rfl (by decide) rfl r2 ?_
  refine w_iln rfl ?_
  refine w_aald (b := w (q + 12 + t)) gba rfl (by omega) (by show (t : Int) < ((8 : Nat) : Int); omega) (by rw [tt]; exact rt) ?_
  refine w_iln rfl ?_
  refine w_iald gb rfl (by omega) (by show (k : Int) < ((12 : Nat) : Int); omega) rfl ?_
  refine w_ifle (fun _ => tail M1 _ _ I1 ⟨fun _ _ _ => rfl, fun _ _ _ => rfl, fun _ _ _ _ => rfl⟩) (fun _ => ?_)
  refine w_aln rfl ?_
  refine w_dupr ?_
  refine w_gi gq rfl (by decide) rfl rfl ?_
  refine w_ic ?_
  refine w_subw ?_
  intro z hz ez
  refine w_pi gq rfl (by decide) rfl (fun q => by cases q) ?_
  exact tail _ _ _ (I1.p0 (by rw [gq]; exact hn_ii hz)) ⟨fun _ _ _ => rfl, fun a hn hj => wz_c (fun e => hj 0 (by omega) (by rw [e]; rfl)), fun _ _ _ _ => rfl⟩
/-- the loop that takes a town's bids from the spare PLAIN -/
theorem r_wo_loop {t : Nat} {z2 : Int} (gx : G x = (1011, 0)) (hA : lq_A G w) (hB : lq_B M w x) (hN : lq_N M w p q) (ht : t < 8) : ∀ (f k : Nat) (M1 : mj_M) (cb sb : Nat), k + f = 12 → ab_Inv G M1 → lq_u G w q M M1 → (∀ M', ab_Inv G M' → lq_u G w q M M' → wz 39 mt_X11_worth.2.2.2.2.1 Q (mt_X11_worth.2.2.2.2.1.drop 36) [some (.inr (.inr (some x))), some (.inl (t : Int)), some (.inl z2), some (.inl 12)] [] G M' cb sb) → wz 39 mt_X11_worth.2.2.2.2.1 Q (mt_X11_worth.2.2.2.2.1.drop 24) [some (.inr (.inr (some x))), some (.inl (t : Int)), some (.inl z2), some (.inl (k : Int))] [] G M1 cb sb := by
  have hq := hN.qin.1
  have h4 := lq_P4 hq
  obtain ⟨gq, -, -, gba, -, -, gbr⟩ := hA.2.1 q hq
  obtain ⟨-, -, b2, -, -, bb⟩ := hB.1 q hq
  have nox : rv_no (G x).1 := by rw [gx]; unfold rv_no; decide
  have noq : rv_no (G (w q)).1 := by rw [gq]; unfold rv_no; decide
  have noba : rv_no (G (w (q + 11))).1 := by rw [gba]; unfold rv_no; decide
  intro f
  induction f with
  | zero =>
    intro k M1 cb sb hk I1 u1 kk
    have e : k = 12 := by omega
    subst e
    refine w_iln rfl ?_
    refine w_bp ?_
    refine w_cmge (fun c => ?_) (fun c => by exfalso; omega)
    exact kk M1 I1 u1
  | succ f ih =>
    intro k M1 cb sb hk I1 u1 kk
    refine w_iln rfl ?_
    refine w_bp ?_
    refine w_cmge (fun c => by exfalso; omega) (fun c => ?_)
    refine w_aln rfl ?_
    refine w_gr gx rfl (by decide) rfl ((u1.1 x 2 nox).trans hB.2.2.1) ?_
    refine w_gr hA.2.2.2.1 rfl (by decide) rfl ((u1.1 (w 74) 0 (lq_no29 hA).2).trans hN.2.1) ?_
    refine w_iln rfl ?_
    refine w_iln rfl ?_
    refine w_ic ?_
    refine w_cv (st := []) rfl gq rfl (Nat.le_of_ble_eq_true rfl) (fun kk h => h) (r_setBid0 hA hq ((u1.1 _ _ noq).trans b2) ((u1.1 _ _ noba).trans (bb t ht)) I1 ht (by omega) (fun M2 I2 u2 => ?_))
    refine w_ii rfl ⟨by omega, by omega⟩ ?_
    refine w_goto ?_
    exact ih (k + 1) M2 _ _ (by omega) I2 (u1.tr u2) kk
set_option maxRecDepth 100000 in
theorem r_X11_worth4 (hI : ab_Inv G M) (gx : G x = (1011, 0)) (hA : lq_A G w) (hB : lq_B M w x) (hN : lq_N M w p q) (hQ : ∀ z M', lq_u G w q M M' → Q (some (.inl z)) G M') : mj_R mj_tab 40 157 [.inr (.inr (some x)), .inl z1] G M Q := by
  have hp := hN.pin.1
  have hq := hN.qin.1
  have h4 := lq_P4 hq
  obtain ⟨gp, -⟩ := hA.2.1 p hp
  obtain ⟨gq, -, -, -, gwq, gtq, gbq⟩ := hA.2.1 q hq
  have nox : rv_no (G x).1 := by rw [gx]; unfold rv_no; decide
  obtain ⟨ye, x9, gye⟩ := hn_rf (k := 9) (q := (2010, 0)) hI gx rfl (by decide) (by decide) (by decide) (fun e => absurd e (by decide))
  have b8 : 0 ≤ M.1 (w p) 4 ∧ M.1 (w p) 4 ≤ 8 := by
    have h := hI.1 (w p) 4
    rw [gp] at h
    exact h
  refine ⟨Nat.le_of_ble_eq_true rfl, ?_⟩
  show wz 39 mt_X11_worth.2.2.2.2.1 Q mt_X11_worth.2.2.2.2.1 [some (.inr (.inr (some x))), some (.inl z1), none, none] [] G M _ _
  refine w_aln rfl ?_
  refine w_iln rfl ?_
  refine w_cv (st := []) rfl gx rfl (Nat.le_of_ble_eq_true rfl) (fun kk h => h) ⟨Nat.le_of_ble_eq_true rfl, ?_⟩
  show wz 38 mt_X11_isTown.2.2.2.2.1 _ mt_X11_isTown.2.2.2.2.1 [some (.inr (.inr (some x))), some (.inl z1)] [] _ _ _ _
  have bad : ∀ (cb sb : Nat), wz 39 mt_X11_worth.2.2.2.2.1 Q (mt_X11_worth.2.2.2.2.1.drop 3) [some (.inr (.inr (some x))), some (.inl z1), none, none] [.inl 0] G M cb sb := by
    intro cb sb
    refine w_ifne (fun c => absurd rfl c) (fun _ => ?_)
    refine w_sp ?_
    exact w_iret (fun q => by cases q) (hQ _ M ⟨fun _ _ _ => rfl, fun _ _ _ => rfl, fun _ _ _ _ => rfl⟩)
  refine w_iln rfl ?_
  refine w_iflt (fun c => ?_) (fun c => ?_)
  · refine w_ic ?_
    exact w_iret (fun _ => Or.inl rfl) (bad _ _)
  · refine w_iln rfl ?_
    refine w_aln rfl ?_
    refine w_gr gx rfl (by decide) rfl hB.2.1 ?_
    refine w_gr hA.2.2.1 rfl (by decide) rfl hN.1 ?_
    refine w_gi gp rfl (by decide) rfl rfl ?_
    refine w_cmge (fun c2 => ?_) (fun c2 => ?_)
    · refine w_ic ?_
      exact w_iret (fun _ => Or.inl rfl) (bad _ _)
    · obtain ⟨t, ht, et⟩ : ∃ t : Nat, t < 8 ∧ z1 = (t : Int) := ⟨z1.toNat, by omega, by omega⟩
      subst et
      refine w_ic ?_
      refine w_goto ?_
      refine w_iret (fun _ => Or.inr rfl) ?_
      refine w_ifne (fun _ => ?_) (fun c => absurd c (by decide))
      refine w_aln rfl ?_
      refine w_aln rfl ?_
      refine w_gr gx rfl (by decide) rfl hB.2.1 ?_
      refine w_gr hA.2.2.1 rfl (by decide) rfl hN.1 ?_
      refine w_cv (st := []) rfl gx rfl (Nat.le_of_ble_eq_true rfl) (fun kk h => h) (r_tryY hI gx gp (fun M1 I1 n1 l1 => ?_))
      have u1 : lq_u G w q M M1 := ⟨fun a k hn => (n1 a k hn).2, fun a hn _ => funext fun k => (n1 a k hn).1, fun a k hl _ => l1 a k hl⟩
      refine w_aln rfl ?_
      refine w_gr gx rfl (by decide) rfl ((u1.1 x 9 nox).trans x9) ?_
      refine w_gi gye rfl (by decide) rfl rfl ?_
      refine w_isn ?_
      refine w_aln rfl ?_
      refine w_gr gx rfl (by decide) rfl ((u1.1 x 2 nox).trans hB.2.2.1) ?_
      refine w_gr hA.2.2.2.1 rfl (by decide) rfl ((u1.1 (w 74) 0 (lq_no29 hA).2).trans hN.2.1) ?_
      refine w_aln rfl ?_
      refine w_gr gx rfl (by decide) rfl ((u1.1 x 1 nox).trans hB.2.1) ?_
      refine w_gr hA.2.2.1 rfl (by decide) rfl ((u1.1 (w 29) 0 (lq_no29 hA).1).trans hN.1) ?_
      have hB1 : lq_B M1 w x := hB.no hA gx u1.1
      refine w_cv (st := []) rfl gq rfl (Nat.le_of_ble_eq_true rfl) (fun kk h => h) (lq_and ab_k32 (lw_cc (c := cd_30) (dd := 38) (Q := fun r G' M' => r = none ∧ G = G' ∧ ab_Inv G M') (ab_all_ok 223 (Nat.le_refl _) 33 (by decide)) rfl (by decide +kernel) gq gp (by decide) (by decide) (by decide) (by decide) (by decide) (by decide) (by decide +kernel) I1 (fun M' i f => ⟨rfl, rfl, i⟩)) (r_X3_copy (d := 38) (Q := fun _ _ M' => rv_cp (w p) (w (p + 1)) (w (p + 20)) (w q) (w (q + 1)) (w (q + 20)) (fun t => w (p + 3 + t)) (fun t => w (p + 12 + t)) (fun t => w (q + 3 + t)) (fun t => w (q + 12 + t)) M1 M') (lq_K hA hB1 hp) (lq_K hA hB1 hq) (lq_ap hA hp hq hN.qin.2) (fun M' h => h)) (fun r G' M2 h1 h2 => ?_))
      obtain ⟨rfl, rfl, I2⟩ := h1
      obtain ⟨-, -, -, -, -, -, c7, c8, c9⟩ := h2
      have u2 : lq_u G w q M M2 := u1.tr ⟨fun a k _ => by rw [c7], fun a hn hj => c9 a (hj 0 (by omega)) (hj 20 (by omega)) (fun t ht => by have := hj (3 + t) (by omega); rw [← Nat.add_assoc] at this; exact this) (fun t ht => by have := hj (12 + t) (by omega); rw [← Nat.add_assoc] at this; exact this), fun a k hl hn => congrFun (c8 a hn) k⟩
      refine w_ic ?_
      refine w_isn ?_
      refine r_wo_loop gx hA hB hN ht 12 0 M2 _ _ (by omega) I2 u2 (fun M3 I3 u3 => ?_)
      refine w_aln rfl ?_
      refine w_aln rfl ?_
      refine w_gr gx rfl (by decide) rfl ((u3.1 x 2 nox).trans hB.2.2.1) ?_
      refine w_gr hA.2.2.2.1 rfl (by decide) rfl ((u3.1 (w 74) 0 (lq_no29 hA).2).trans hN.2.1) ?_
      refine w_cv (st := []) rfl gx rfl (Nat.le_of_ble_eq_true rfl) (fun kk h => h) (r_tryY I3 gx gq (fun M4 I4 n4 l4 => ?_))
      have u4 : lq_u G w q M M4 := u3.tr ⟨fun a k hn => (n4 a k hn).2, fun a hn _ => funext fun k => (n4 a k hn).1, fun a k hl _ => l4 a k hl⟩
      refine w_iln rfl ?_
      refine w_aln rfl ?_
      refine w_gr gx rfl (by decide) rfl ((u4.1 x 9 nox).trans x9) ?_
      refine w_gi gye rfl (by decide) rfl rfl ?_
      refine w_subw ?_
      intro z hz ez
      exact w_iret (fun q => by cases q) (hQ _ M4 u4)
end WO
