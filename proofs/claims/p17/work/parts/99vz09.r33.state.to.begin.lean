section
/-! ===== a STATE copied: its PLAIN told ===== -/
theorem lq_and {dd y : Nat} {av : List mj_V} {G : mj_G} {M : mj_M} {R R' Q : mj_P} (hk : an_ok mj_tab dd y = true) (h1 : mj_R mj_tab dd y av G M R) (h2 : mj_R mj_tab dd y av G M R') (h : ∀ r G M, R r G M → R' r G M → Q r G M) : mj_R mj_tab dd y av G M Q := mj_R_mo mj_tab dd _ _ _ _ _ _ (fun r G M q => h r G M q.1 q.2) (an_R mj_tab dd y av G M R R' hk h1 h2)
/-- an array copied whole to one of its role keeps the roles -/
theorem hn_cp {G : mj_G} {M : mj_M} {a b t n k : Nat} (hI : ab_Inv G M) (ha : G a = (t, n)) (hb : G b = (t, n)) : ab_Inv G (mj_cp0 M a b 0 0 k) := by
  refine ⟨fun x j => ?_, hI.2⟩
  by_cases e : x = b ∧ 0 ≤ j ∧ j < 0 + k
  · rw [show (mj_cp0 M a b 0 0 k).1 x j = M.1 a (0 + (j - 0)) from if_pos e, e.1, hb, Nat.zero_add, Nat.sub_zero]
    have := hI.1 a j
    rw [ha] at this
    exact this
  · rw [show (mj_cp0 M a b 0 0 k).1 x j = M.1 x j from if_neg e]; exact hI.1 x j
/-- cells of a STATE that belong to no PLAIN -/
def rv_no (t : Nat) : Prop := t ≠ 1002 ∧ t ≠ 16100 ∧ t ≠ 17100 ∧ t ≠ 18100 ∧ t ≠ 1006 ∧ t ≠ 34105 ∧ t ≠ 35100 ∧ t ≠ 36100 ∧ t ≠ 1010 ∧ t ≠ 42100 ∧ t ≠ 43100 ∧ t ≠ 44100 ∧ t ≠ 46100 ∧ t ≠ 2010 ∧ t ≠ 73100 ∧ t ≠ 74100 ∧ t ≠ 75100 ∧ t ≠ 77100
/-- a STATE copied, as far as its PLAIN goes -/
def rv_cq (G : mj_G) (pl wa pl' wa' : Nat) (tr br tr' br' : Nat → Nat) (M M' : mj_M) : Prop := (∀ k, 4 ≤ k → k ≤ 9 → M'.1 pl' k = M.1 pl k) ∧ (∀ t, t < 8 → ∀ w, w < 9 → M'.1 (tr' t) w = M.1 (tr t) w) ∧ (∀ t, t < 8 → ∀ w, w < 12 → M'.1 (br' t) w = M.1 (br t) w) ∧ (∀ w, w < 12 → M'.1 wa' w = M.1 wa w) ∧ (∀ a k, rv_no (G a).1 → M'.2.2 a k = M.2.2 a k) ∧ (∀ a, rv_no (G a).1 → a ≠ pl' → a ≠ wa' → (∀ t, t < 8 → a ≠ tr' t) → (∀ t, t < 8 → a ≠ br' t) → M'.1 a = M.1 a)
/-- a STATE copied: names, CONTRACTS -/
def rv_cr (G : mj_G) (st st' na na' : Nat) (M M' : mj_M) : Prop := (∀ s, s < 8 → M'.2.1 na' s = M.2.1 na s) ∧ (∀ a k, (G a).1 % 1000 = 103 → a ≠ na' → M'.2.1 a k = M.2.1 a k) ∧ (∀ dl dl' fa sa ca fa' sa' ca', rv_D G M dl fa sa ca → rv_D G M dl' fa' sa' ca' → M.2.2 st 1 = some dl → M.2.2 st' 1 = some dl' → (∀ j, j < 12 → M'.1 fa' j = M.1 fa j ∧ M'.1 sa' j = M.1 sa j ∧ M'.1 ca' j = M.1 ca j) ∧ M'.1 dl' 3 = M.1 dl 3 ∧ (∀ a, (G a).1 = 1002 ∨ (G a).1 = 16100 ∨ (G a).1 = 17100 ∨ (G a).1 = 18100 → a ≠ dl' → a ≠ fa' → a ≠ sa' → a ≠ ca' → M'.1 a = M.1 a))
theorem ab_k30 : an_ok mj_tab 38 32 = true := by decide +kernel
set_option maxRecDepth 100000 in
theorem r_X6_copy {G : mj_G} {M : mj_M} {pl na ta ba wa pl' na' ta' ba' wa' st st' : Nat} {tr br tr' br' : Nat → Nat} {Q : mj_P} (hI : ab_Inv G M) (gs : G st = (1007, 0)) (gs' : G st' = (1007, 0)) (s0 : M.2.2 st 0 = some pl) (s0' : M.2.2 st' 0 = some pl') (hB : rv_K G M pl na ta ba wa tr br) (hA : rv_K G M pl' na' ta' ba' wa' tr' br') (hp : rv_ap pl na wa pl' na' wa' tr br tr' br') (hQ : ∀ M', ab_Inv G M' → rv_cq G pl wa pl' wa' tr br tr' br' M M' → rv_cr G st st' na na' M M' → Q none G M') : mj_R mj_tab 39 67 [.inr (.inr (some st')), .inr (.inr (some st))] G M Q := by
  have gpl := hB.1
  have gpl' := hA.1
  obtain ⟨dl, d1, gdl⟩ := hn_rf (k := 1) (q := (1002, 0)) hI gs rfl (by decide) (by decide) (by decide) (fun e => absurd e (by decide))
  obtain ⟨dl', d1', gdl'⟩ := hn_rf (k := 1) (q := (1002, 0)) hI gs' rfl (by decide) (by decide) (by decide) (fun e => absurd e (by decide))
  obtain ⟨se, e1, gse⟩ := hn_rf (k := 2) (q := (1006, 0)) hI gs rfl (by decide) (by decide) (by decide) (fun e => absurd e (by decide))
  obtain ⟨se', e1', gse'⟩ := hn_rf (k := 2) (q := (1006, 0)) hI gs' rfl (by decide) (by decide) (by decide) (fun e => absurd e (by decide))
  obtain ⟨ye, y1, gye⟩ := hn_rf (k := 3) (q := (1010, 0)) hI gs rfl (by decide) (by decide) (by decide) (fun e => absurd e (by decide))
  obtain ⟨ye', y1', gye'⟩ := hn_rf (k := 3) (q := (1010, 0)) hI gs' rfl (by decide) (by decide) (by decide) (fun e => absurd e (by decide))
  obtain ⟨fa, f0, gfa⟩ := hn_rf (k := 0) (q := (16100, 12)) hI gdl rfl (by decide) (by decide) (by decide) (fun e => absurd e (by decide))
  obtain ⟨sa, f1, gsa⟩ := hn_rf (k := 1) (q := (17100, 12)) hI gdl rfl (by decide) (by decide) (by decide) (fun e => absurd e (by decide))
  obtain ⟨ca, f2, gca⟩ := hn_rf (k := 2) (q := (18100, 12)) hI gdl rfl (by decide) (by decide) (by decide) (fun e => absurd e (by decide))
  obtain ⟨fa', f0', gfa'⟩ := hn_rf (k := 0) (q := (16100, 12)) hI gdl' rfl (by decide) (by decide) (by decide) (fun e => absurd e (by decide))
  obtain ⟨sa', f1', gsa'⟩ := hn_rf (k := 1) (q := (17100, 12)) hI gdl' rfl (by decide) (by decide) (by decide) (fun e => absurd e (by decide))
  obtain ⟨ca', f2', gca'⟩ := hn_rf (k := 2) (q := (18100, 12)) hI gdl' rfl (by decide) (by decide) (by decide) (fun e => absurd e (by decide))
  refine ⟨Nat.le_of_ble_eq_true rfl, ?_⟩
  show wz 38 mt_X6_copy.2.2.2.2.1 Q mt_X6_copy.2.2.2.2.1 [some (.inr (.inr (some st'))), some (.inr (.inr (some st)))] [] G M _ _
  refine w_aln rfl ?_
  refine w_gr gs' rfl (by decide) rfl s0' ?_
  refine w_aln rfl ?_
  refine w_gr gs rfl (by decide) rfl s0 ?_
  refine w_cv (st := []) rfl gpl' rfl (Nat.le_of_ble_eq_true rfl) (fun kk h => h) (lq_and ab_k30 (lw_cc (c := cd_30) (dd := 37) (Q := fun r G' M' => r = none ∧ G = G' ∧ ab_Inv G M') (ab_all_ok 223 (Nat.le_refl _) 33 (by decide)) rfl (by decide +kernel) gpl' gpl (by decide) (by decide) (by decide) (by decide) (by decide) (by decide) (by decide +kernel) hI (fun M' i f => ⟨rfl, rfl, i⟩)) (r_X3_copy (d := 37) (Q := fun _ _ M' => rv_cp pl na wa pl' na' wa' tr br tr' br' M M') hB hA hp (fun M' h => h)) (fun r G' M1 h1 h2 => ?_))
  obtain ⟨rfl, rfl, I1⟩ := h1
  obtain ⟨c1, c2, c3, c4, c5, c6, c7, c8, c9⟩ := h2
  refine w_aln rfl ?_
  refine w_gr gs' rfl (by decide) rfl (by rw [c7]; exact d1') ?_
  refine w_aln rfl ?_
  refine w_gr gs rfl (by decide) rfl (by rw [c7]; exact d1) ?_
  refine w_cv (st := []) rfl gdl' rfl (Nat.le_of_ble_eq_true rfl) (fun kk h => h) ⟨Nat.le_of_ble_eq_true rfl, ?_⟩
  show wz 37 mt_X1_copy.2.2.2.2.1 _ mt_X1_copy.2.2.2.2.1 [some (.inr (.inr (some dl'))), some (.inr (.inr (some dl)))] [] _ _ _ _
  refine w_aln rfl ?_
  refine w_gr gdl rfl (by decide) rfl (by rw [c7]; exact f0) ?_
  refine w_ic ?_
  refine w_aln rfl ?_
  refine w_gr gdl' rfl (by decide) rfl (by rw [c7]; exact f0') ?_
  refine w_ic ?_
  refine w_bp ?_
  refine w_cp0 gfa rfl gfa' rfl (by decide) (by decide) (by decide) (by decide) (by decide) (by decide) (Nat.zero_le 8) ?_
  refine w_aln rfl ?_
  refine w_gr gdl rfl (by decide) rfl (by show M1.2.2 dl 1 = _; rw [c7]; exact f1) ?_
  refine w_ic ?_
  refine w_aln rfl ?_
  refine w_gr gdl' rfl (by decide) rfl (by show M1.2.2 dl' 1 = _; rw [c7]; exact f1') ?_
  refine w_ic ?_
  refine w_bp ?_
  refine w_cp0 gsa rfl gsa' rfl (by decide) (by decide) (by decide) (by decide) (by decide) (by decide) (Nat.zero_le 8) ?_
  refine w_aln rfl ?_
  refine w_gr gdl rfl (by decide) rfl (by show M1.2.2 dl 2 = _; rw [c7]; exact f2) ?_
  refine w_ic ?_
  refine w_aln rfl ?_
  refine w_gr gdl' rfl (by decide) rfl (by show M1.2.2 dl' 2 = _; rw [c7]; exact f2') ?_
  refine w_ic ?_
  refine w_bp ?_
  refine w_cp0 gca rfl gca' rfl (by decide) (by decide) (by decide) (by decide) (by decide) (by decide) (Nat.zero_le 8) ?_
  refine w_aln rfl ?_
  refine w_aln rfl ?_
  refine w_gi gdl rfl (by decide) rfl rfl ?_
  refine w_pi gdl' rfl (by decide) rfl (fun q => by cases q) ?_
  refine w_ret ?_
  have I2 : ab_Inv G (mj_cp0 (mj_cp0 (mj_cp0 M1 fa fa' 0 0 12) sa sa' 0 0 12) ca ca' 0 0 12) := hn_cp (hn_cp (hn_cp I1 gfa gfa') gsa gsa') gca gca'
  have I3 : ab_Inv G (mj_p0 (mj_cp0 (mj_cp0 (mj_cp0 M1 fa fa' 0 0 12) sa sa' 0 0 12) ca ca' 0 0 12) dl' 3 ((mj_cp0 (mj_cp0 (mj_cp0 M1 fa fa' 0 0 12) sa sa' 0 0 12) ca ca' 0 0 12).1 dl 3)) := I2.p0 (by
    have h3 := I2.1 dl 3
    rw [gdl] at h3
    rw [gdl']
    exact h3)
  have k3 : ∀ a, rv_no (G a).1 → (mj_p0 (mj_cp0 (mj_cp0 (mj_cp0 M1 fa fa' 0 0 12) sa sa' 0 0 12) ca ca' 0 0 12) dl' 3 ((mj_cp0 (mj_cp0 (mj_cp0 M1 fa fa' 0 0 12) sa sa' 0 0 12) ca ca' 0 0 12).1 dl 3)).1 a = M1.1 a := fun a hn => (wz_c (fun e => hn.1 (by rw [e, gdl']))).trans ((cp0_o (fun e => hn.2.2.2.1 (by rw [e, gca']))).trans ((cp0_o (fun e => hn.2.2.1 (by rw [e, gsa']))).trans (cp0_o (fun e => hn.2.1 (by rw [e, gfa'])))))
  generalize hM2 : mj_p0 (mj_cp0 (mj_cp0 (mj_cp0 M1 fa fa' 0 0 12) sa sa' 0 0 12) ca ca' 0 0 12) dl' 3 ((mj_cp0 (mj_cp0 (mj_cp0 M1 fa fa' 0 0 12) sa sa' 0 0 12) ca ca' 0 0 12).1 dl 3) = M2 at I3 k3
  have r2 : M2.2.2 = M.2.2 := by rw [← hM2]; exact c7
  show wz 38 mt_X6_copy.2.2.2.2.1 Q (mt_X6_copy.2.2.2.2.1.drop 10) [some (.inr (.inr (some st'))), some (.inr (.inr (some st)))] [] G (mj_p0 (mj_cp0 (mj_cp0 (mj_cp0 M1 fa fa' 0 0 12) sa sa' 0 0 12) ca ca' 0 0 12) dl' 3 ((mj_cp0 (mj_cp0 (mj_cp0 M1 fa fa' 0 0 12) sa sa' 0 0 12) ca ca' 0 0 12).1 dl 3)) _ _
  rw [hM2]
  refine w_aln rfl ?_
  refine w_gr gs' rfl (by decide) rfl (by rw [r2]; exact e1') ?_
  refine w_aln rfl ?_
  refine w_gr gs rfl (by decide) rfl (by rw [r2]; exact e1) ?_
  refine w_cv (st := []) rfl gse' rfl (Nat.le_of_ble_eq_true rfl) (fun kk h => h) (sn_ln (by decide +kernel) (lw_cc (c := cd_33) (dd := 37) (Q := fun r G' M' => r = none ∧ G' = G ∧ ab_Inv G M' ∧ ab_frm (ab_w cd_33) G M2 M') (ab_all_ok 223 (Nat.le_refl _) 36 (by decide)) rfl (by decide +kernel) gse' gse (by decide) (by decide) (by decide) (by decide) (by decide) (by decide) (by decide +kernel) I3 (fun M' i f => ⟨rfl, rfl, i, f⟩)) (fun r M3 h3 l3 => ?_))
  obtain ⟨rfl, -, I4, w3⟩ := h3
  have n3 : ∀ a k, rv_no (G a).1 ∨ (G a).1 = 1010 → M3.1 a k = M2.1 a k ∧ M3.2.2 a k = M2.2.2 a k := fun a k hn => w3 a k (fun ⟨q, hq, g, _⟩ => by
    have key : ∀ q ∈ ab_w cd_33, q.1 = 1006 ∨ q.1 = 34105 ∨ q.1 = 35100 ∨ q.1 = 36100 := by decide +kernel
    have hk := key q hq
    rw [g] at hk
    unfold rv_no at hn
    omega)
  refine w_aln rfl ?_
  refine w_gr gs' rfl (by decide) rfl (((n3 st' 3 (Or.inl (by rw [gs']; unfold rv_no; decide))).2).trans (by rw [r2]; exact y1')) ?_
  refine w_aln rfl ?_
  refine w_gr gs rfl (by decide) rfl (((n3 st 3 (Or.inl (by rw [gs]; unfold rv_no; decide))).2).trans (by rw [r2]; exact y1)) ?_
  refine w_cv (st := []) rfl gye' rfl (Nat.le_of_ble_eq_true rfl) (fun kk h => h) (sn_ln (by decide +kernel) (lw_cc (c := cd_6) (dd := 37) (Q := fun r G' M' => r = none ∧ G' = G ∧ ab_Inv G M' ∧ ab_frm (ab_w cd_6) G M3 M') (ab_all_ok 223 (Nat.le_refl _) 6 (by decide)) rfl (by decide +kernel) gye' gye (by decide) (by decide) (by decide) (by decide) (by decide) (by decide) (by decide +kernel) I4 (fun M' i f => ⟨rfl, rfl, i, f⟩)) (fun r M4 h4 l4 => ?_))
  obtain ⟨rfl, -, I5, w4⟩ := h4
  have n4 : ∀ a k, rv_no (G a).1 → M4.1 a k = M3.1 a k ∧ M4.2.2 a k = M3.2.2 a k := fun a k hn => w4 a k (fun ⟨q, hq, g, _⟩ => by
    have key : ∀ q ∈ ab_w cd_6, q.1 = 1010 ∨ q.1 = 42100 ∨ q.1 = 43100 ∨ q.1 = 44100 ∨ q.1 = 46100 := by decide +kernel
    have hk := key q hq
    rw [g] at hk
    unfold rv_no at hn
    omega)
  have no : ∀ a, rv_no (G a).1 → M4.1 a = M1.1 a := fun a hn => funext fun k => (n4 a k hn).1.trans ((n3 a k (Or.inl hn)).1.trans (congrFun (k3 a hn) k))
  have gwa' := hA.2.2.2.2.1
  have gtr' := hA.2.2.2.2.2.1
  have gbr' := hA.2.2.2.2.2.2.1
  refine w_ret (hQ M4 I5 ⟨fun k k1 k2 => ?_, fun t ht w hw => ?_, fun t ht w hw => ?_, fun w hw => ?_, fun a k hn => ?_, fun a hn a1 a2 a3 a4 => ?_⟩ ⟨fun s hs => ?_, fun a k hl hn => ?_, fun xl xl' xf xs xc xf' xs' xc' hd hd' q1 q1' => ?_⟩)
  · rw [no pl' (by rw [gpl']; unfold rv_no; decide)]; exact c1 k k1 k2
  · rw [no _ (by rw [gtr' t ht]; unfold rv_no; decide)]; exact c3 t ht w hw
  · rw [no _ (by rw [gbr' t ht]; unfold rv_no; decide)]; exact c4 t ht w hw
  · rw [no _ (by rw [gwa']; unfold rv_no; decide)]; exact c5 w hw
  · exact (n4 a k hn).2.trans ((n3 a k (Or.inl hn)).2.trans (congrFun (congrFun r2 a) k))
  · rw [no a hn]; exact c9 a a1 a2 a3 a4
  · have gna' := hA.2.1
    rw [l4 na' s (by rw [gna']; rfl), l3 na' s (by rw [gna']; rfl), ← hM2]; exact c6 s hs
  · rw [l4 a k hl, l3 a k hl, ← hM2]; exact congrFun (c8 a hn) k
  · obtain rfl : xl = dl := Option.some.inj (q1.symm.trans d1)
    obtain rfl : xl' = dl' := Option.some.inj (q1'.symm.trans d1')
    obtain ⟨-, -, -, -, i0, i1, i2⟩ := hd
    obtain ⟨-, -, -, -, i0', i1', i2'⟩ := hd'
    obtain rfl : xf = fa := Option.some.inj (i0.symm.trans f0)
    obtain rfl : xs = sa := Option.some.inj (i1.symm.trans f1)
    obtain rfl : xc = ca := Option.some.inj (i2.symm.trans f2)
    obtain rfl : xf' = fa' := Option.some.inj (i0'.symm.trans f0')
    obtain rfl : xs' = sa' := Option.some.inj (i1'.symm.trans f1')
    obtain rfl : xc' = ca' := Option.some.inj (i2'.symm.trans f2')
    have key3 : ∀ q ∈ ab_w cd_33, q.1 = 1006 ∨ q.1 = 34105 ∨ q.1 = 35100 ∨ q.1 = 36100 := by decide +kernel
    have key4 : ∀ q ∈ ab_w cd_6, q.1 = 1010 ∨ q.1 = 42100 ∨ q.1 = 43100 ∨ q.1 = 44100 ∨ q.1 = 46100 := by decide +kernel
    have n34 : ∀ a, (G a).1 = 1002 ∨ (G a).1 = 16100 ∨ (G a).1 = 17100 ∨ (G a).1 = 18100 → M4.1 a = M2.1 a := fun a ha => funext fun k => (w4 a k (fun ⟨q, hq, g, _⟩ => by have := key4 q hq; rw [g] at this; omega)).1.trans (w3 a k (fun ⟨q, hq, g, _⟩ => by have := key3 q hq; rw [g] at this; omega)).1
    have o1 : ∀ a, (G a).1 = 1002 ∨ (G a).1 = 16100 ∨ (G a).1 = 17100 ∨ (G a).1 = 18100 → M1.1 a = M.1 a := fun a ha => c9 a (fun e => by rw [e, gpl'] at ha; omega) (fun e => by rw [e, gwa'] at ha; omega) (fun t ht e => by rw [e, gtr' t ht] at ha; omega) (fun t ht e => by rw [e, gbr' t ht] at ha; omega)
    refine ⟨fun j hj => ⟨?_, ?_, ?_⟩, ?_, fun a ha n1 n2 n3 n4 => ?_⟩
    · rw [n34 _ (by rw [gfa']; decide), ← hM2, wz_c (hn_ne gfa' gdl' (by decide)), cp0_o (hn_ne gfa' gca' (by decide)), cp0_o (hn_ne gfa' gsa' (by decide)), cp0_i hj, o1 _ (by rw [gfa]; decide)]
    · rw [n34 _ (by rw [gsa']; decide), ← hM2, wz_c (hn_ne gsa' gdl' (by decide)), cp0_o (hn_ne gsa' gca' (by decide)), cp0_i hj, cp0_o (hn_ne gsa gfa' (by decide)), o1 _ (by rw [gsa]; decide)]
    · rw [n34 _ (by rw [gca']; decide), ← hM2, wz_c (hn_ne gca' gdl' (by decide)), cp0_i hj, cp0_o (hn_ne gca gsa' (by decide)), cp0_o (hn_ne gca gfa' (by decide)), o1 _ (by rw [gca]; decide)]
    · rw [n34 _ (by rw [gdl']; decide), ← hM2]
      refine hn_s.trans ?_
      rw [cp0_o (hn_ne gdl gca' (by decide)), cp0_o (hn_ne gdl gsa' (by decide)), cp0_o (hn_ne gdl gfa' (by decide)), o1 _ (by rw [gdl]; decide)]
    · rw [n34 a ha, ← hM2, wz_c n1, cp0_o n4, cp0_o n3, cp0_o n2, o1 a ha]
end
section
/-! ===== where the PLAINS lie; the class's image and restore with their PLAINS ===== -/
theorem w_zast {d : Nat} {full : List mj_E} {Q : mj_P} {rest : List mj_E} {L : mj_L} {st : List mj_V} {G : mj_G} {M : mj_M} {cb sb pc : Nat} {aux : List Nat} {im : Int} {a t n : Nat} {i v : Int} (hv : v = 0 ∨ v = 1) (ha : G a = (t, n)) (ht : t % 1000 = 102) (h9 : t < 900000) (h0 : 0 ≤ i) (h1 : i < n) (kk : wz d full Q rest L st G (mj_p0 M a i.toNat v) cb sb) : wz d full Q ((.bastore, pc, aux, im) :: rest) L (.inl v :: .inl i :: .inr (.inr (some a)) :: st) G M cb sb := wz_st (Or.inr ⟨hv, t, n, ha, ht, h9, h0, h1, kk⟩)
theorem w_zald {d : Nat} {full : List mj_E} {Q : mj_P} {rest : List mj_E} {L : mj_L} {st : List mj_V} {G : mj_G} {M : mj_M} {cb sb pc : Nat} {aux : List Nat} {im : Int} {a t n : Nat} {i v : Int} (ha : G a = (t, n)) (ht : t % 1000 = 102) (h0 : 0 ≤ i) (h1 : i < n) (hv : M.1 a i.toNat = v) (kk : wz d full Q rest L (.inl v :: st) G M cb sb) : wz d full Q ((.baload, pc, aux, im) :: rest) L (.inl i :: .inr (.inr (some a)) :: st) G M cb sb := wz_st (Or.inr ⟨t, n, ha, ht, h0, h1, by rw [← hv] at kk; exact kk⟩)
def lq_Ps : List Nat := [30, 75, 247, 292]
theorem lq_P4 {P : Nat} (h : P ∈ lq_Ps) : P = 30 ∨ P = 75 ∨ P = 247 ∨ P = 292 := by
  simp [lq_Ps] at h; exact h
def lq_A (G : mj_G) (w : Nat → Nat) : Prop := (∀ i j, i < 361 → j < 361 → w i = w j → i = j) ∧ (∀ P, P ∈ lq_Ps → G (w P) = (1004, 0) ∧ G (w (P + 1)) = (24103, 8) ∧ G (w (P + 2)) = (25104, 8) ∧ G (w (P + 11)) = (27104, 8) ∧ G (w (P + 20)) = (29100, 12) ∧ (∀ t, t < 8 → G (w (P + 3 + t)) = (26100, 9)) ∧ (∀ t, t < 8 → G (w (P + 12 + t)) = (28100, 12))) ∧ G (w 29) = (1007, 0) ∧ G (w 74) = (1007, 0) ∧ G (w 246) = (1007, 0) ∧ G (w 291) = (1007, 0) ∧ G (w 119) = (47106, 2)
def lq_B (M : mj_M) (w : Nat → Nat) (x : Nat) : Prop := (∀ P, P ∈ lq_Ps → M.2.2 (w P) 0 = some (w (P + 1)) ∧ M.2.2 (w P) 1 = some (w (P + 2)) ∧ M.2.2 (w P) 2 = some (w (P + 11)) ∧ M.2.2 (w P) 3 = some (w (P + 20)) ∧ (∀ t, t < 8 → M.2.2 (w (P + 2)) t = some (w (P + 3 + t))) ∧ (∀ t, t < 8 → M.2.2 (w (P + 11)) t = some (w (P + 12 + t)))) ∧ M.2.2 x 1 = some (w 29) ∧ M.2.2 x 2 = some (w 74) ∧ M.2.2 x 3 = some (w 119) ∧ M.2.2 (w 119) 0 = some (w 246) ∧ M.2.2 (w 119) 1 = some (w 291) ∧ M.2.2 (w 246) 0 = some (w 247) ∧ M.2.2 (w 291) 0 = some (w 292)
def lq_N (M : mj_M) (w : Nat → Nat) (p q : Nat) : Prop := M.2.2 (w 29) 0 = some (w p) ∧ M.2.2 (w 74) 0 = some (w q) ∧ ((p = 30 ∧ q = 75) ∨ (p = 75 ∧ q = 30))
theorem lq_K {G : mj_G} {M : mj_M} {w : Nat → Nat} {x P : Nat} (hA : lq_A G w) (hB : lq_B M w x) (hP : P ∈ lq_Ps) : rv_K G M (w P) (w (P + 1)) (w (P + 2)) (w (P + 11)) (w (P + 20)) (fun t => w (P + 3 + t)) (fun t => w (P + 12 + t)) := by
  obtain ⟨g1, g2, g3, g4, g5, g6, g7⟩ := hA.2.1 P hP
  obtain ⟨b1, b2, b3, b4, b5, b6⟩ := hB.1 P hP
  have h4 := lq_P4 hP
  exact ⟨g1, g2, g3, g4, g5, g6, g7, fun t s ht hs e => by have := hA.1 _ _ (by omega) (by omega) e; omega, fun t s ht hs e => by have := hA.1 _ _ (by omega) (by omega) e; omega, b1, b2, b3, b4, b5, b6⟩
theorem lq_ap {G : mj_G} {w : Nat → Nat} {P P' : Nat} (hA : lq_A G w) (hP : P ∈ lq_Ps) (hP' : P' ∈ lq_Ps) (hne : P ≠ P') : rv_ap (w P) (w (P + 1)) (w (P + 20)) (w P') (w (P' + 1)) (w (P' + 20)) (fun t => w (P + 3 + t)) (fun t => w (P + 12 + t)) (fun t => w (P' + 3 + t)) (fun t => w (P' + 12 + t)) := by
  have h4 := lq_P4 hP
  have h4' := lq_P4 hP'
  refine ⟨fun e => ?_, fun e => ?_, fun e => ?_, fun t s ht hs e => ?_, fun t s ht hs e => ?_⟩
  all_goals
    have := hA.1 _ _ (by omega) (by omega) e
    omega
/-- one PLAIN's cells over another's, all else of PLAINS as it was -/
def lq_cp (G : mj_G) (w : Nat → Nat) (P P' : Nat) (M M' : mj_M) : Prop := rv_cq G (w P) (w (P + 20)) (w P') (w (P' + 20)) (fun t => w (P + 3 + t)) (fun t => w (P + 12 + t)) (fun t => w (P' + 3 + t)) (fun t => w (P' + 12 + t)) M M'
section IM
variable {G : mj_G} {M : mj_M} {w : Nat → Nat} {x p q kc : Nat} {z1 : Int} {Q : mj_P}
def lq_ip (k : Nat) : Nat := if k = 0 then 247 else 292
theorem lq_ip_in (k : Nat) : lq_ip k ∈ lq_Ps := by unfold lq_ip; split <;> decide
theorem lq_N.pin (hN : lq_N M w p q) : p ∈ lq_Ps ∧ (∀ k, p ≠ lq_ip k) := by
  rcases hN.2.2 with ⟨rfl, -⟩ | ⟨rfl, -⟩
  · exact ⟨by decide, fun k => by unfold lq_ip; split <;> decide⟩
  · exact ⟨by decide, fun k => by unfold lq_ip; split <;> decide⟩
theorem lq_im (hA : lq_A G w) (hB : lq_B M w x) (k : Nat) (hk : k < 2) : ∃ st, M.2.2 (w 119) k = some st ∧ G st = (1007, 0) ∧ M.2.2 st 0 = some (w (lq_ip k)) := by
  have : k = 0 ∨ k = 1 := by omega
  rcases this with rfl | rfl
  · exact ⟨w 246, hB.2.2.2.2.1, hA.2.2.2.2.1, hB.2.2.2.2.2.2.1⟩
  · exact ⟨w 291, hB.2.2.2.2.2.1, hA.2.2.2.2.2.1, hB.2.2.2.2.2.2.2⟩
theorem r_X11_image4 (hI : ab_Inv G M) (gx : G x = (1011, 0)) (hA : lq_A G w) (hB : lq_B M w x) (hN : lq_N M w p q) (x4 : M.2.2 x 4 = some kc) (gkc : G kc = (48102, 2)) (h0 : ¬ (0 ≤ z1 ∧ z1 ≤ 1) → Q (some (.inl 0)) G M) (h1 : ∀ k : Nat, k < 2 → z1 = (k : Int) → ∀ M1, lq_cp G w p (lq_ip k) M M1 → (∃ st, M.2.2 (w 119) k = some st ∧ rv_cr G (w 29) st (w (p + 1)) (w (lq_ip k + 1)) M M1) → Q (some (.inl 1)) G (mj_p0 M1 kc k 1)) : mj_R mj_tab 40 127 [.inr (.inr (some x)), .inl z1] G M Q := by
  have g119 := hA.2.2.2.2.2.2
  refine ⟨Nat.le_of_ble_eq_true rfl, ?_⟩
  show wz 39 mt_X11_image.2.2.2.2.1 Q mt_X11_image.2.2.2.2.1 [some (.inr (.inr (some x))), some (.inl z1)] [] G M _ _
  refine w_iln rfl ?_
  refine w_iflt (fun c => ?_) (fun c => ?_)
  · refine w_ic ?_
    exact w_iret (fun _ => Or.inl rfl) (h0 (by omega))
  · refine w_iln rfl ?_
    refine w_ic ?_
    refine w_cmlt (fun c2 => ?_) (fun c2 => ?_)
    · obtain ⟨k, hk, ek⟩ : ∃ k : Nat, k < 2 ∧ z1 = (k : Int) := ⟨z1.toNat, by omega, by omega⟩
      subst ek
      obtain ⟨st, s1, gst, s0⟩ := lq_im hA hB k hk
      have tk : ((k : Int)).toNat = k := by omega
      refine w_aln rfl ?_
      refine w_gr gx rfl (by decide) rfl hB.2.2.2.1 ?_
      refine w_iln rfl ?_
      refine w_aald (b := st) g119 rfl (by omega) (by show (k : Int) < ((2 : Nat) : Int); omega) (by rw [tk]; exact s1) ?_
      refine w_aln rfl ?_
      refine w_gr gx rfl (by decide) rfl hB.2.1 ?_
      refine w_cv (st := []) rfl gst rfl (Nat.le_of_ble_eq_true rfl) (fun kk h => h) (r_X6_copy hI hA.2.2.1 gst hN.1 s0 (lq_K hA hB hN.pin.1) (lq_K hA hB (lq_ip_in k)) (lq_ap hA hN.pin.1 (lq_ip_in k) (hN.pin.2 k)) (fun M1 I1 h hcr => ?_))
      refine w_aln rfl ?_
      refine w_gr gx rfl (by decide) rfl ((h.2.2.2.2.1 x 4 (by rw [gx]; unfold rv_no; decide)).trans x4) ?_
      refine w_iln rfl ?_
      refine w_ic ?_
      refine w_zast (Or.inr rfl) gkc rfl (by decide) (by omega) (by show (k : Int) < ((2 : Nat) : Int); omega) ?_
      refine w_ic ?_
      refine w_iret (fun _ => Or.inr rfl) ?_
      rw [tk]
      exact h1 k hk rfl M1 h ⟨st, s1, hcr⟩
    · refine w_ic ?_
      exact w_iret (fun _ => Or.inl rfl) (h0 (by omega))
theorem r_X11_restore4 {ud : Nat} (hI : ab_Inv G M) (gx : G x = (1011, 0)) (hA : lq_A G w) (hB : lq_B M w x) (hN : lq_N M w p q) (x4 : M.2.2 x 4 = some kc) (gkc : G kc = (48102, 2)) (x5 : M.2.2 x 5 = some ud) (gud : G ud = (1009, 0)) (h0 : (¬ (0 ≤ z1 ∧ z1 ≤ 1) ∨ ∃ k : Nat, k < 2 ∧ z1 = (k : Int) ∧ M.1 kc k = 0) → Q (some (.inl 0)) G M) (h1 : ∀ k : Nat, k < 2 → z1 = (k : Int) → M.1 kc k ≠ 0 → ∀ M1, lq_cp G w (lq_ip k) p M M1 → (∃ st, M.2.2 (w 119) k = some st ∧ rv_cr G st (w 29) (w (lq_ip k + 1)) (w (p + 1)) M M1) → Q (some (.inl 1)) G (mj_p0 M1 ud 3 0)) : mj_R mj_tab 40 144 [.inr (.inr (some x)), .inl z1] G M Q := by
  have g119 := hA.2.2.2.2.2.2
  refine ⟨Nat.le_of_ble_eq_true rfl, ?_⟩
  show wz 39 mt_X11_restore.2.2.2.2.1 Q mt_X11_restore.2.2.2.2.1 [some (.inr (.inr (some x))), some (.inl z1)] [] G M _ _
  refine w_iln rfl ?_
  refine w_iflt (fun c => ?_) (fun c => ?_)
  · refine w_ic ?_
    exact w_iret (fun _ => Or.inl rfl) (h0 (Or.inl (by omega)))
  · refine w_iln rfl ?_
    refine w_ic ?_
    refine w_cmge (fun c2 => ?_) (fun c2 => ?_)
    · refine w_ic ?_
      exact w_iret (fun _ => Or.inl rfl) (h0 (Or.inl (by omega)))
    · obtain ⟨k, hk, ek⟩ : ∃ k : Nat, k < 2 ∧ z1 = (k : Int) := ⟨z1.toNat, by omega, by omega⟩
      subst ek
      obtain ⟨st, s1, gst, s0⟩ := lq_im hA hB k hk
      have tk : ((k : Int)).toNat = k := by omega
      refine w_aln rfl ?_
      refine w_gr gx rfl (by decide) rfl x4 ?_
      refine w_iln rfl ?_
      refine w_zald (v := M.1 kc k) gkc rfl (by omega) (by show (k : Int) < ((2 : Nat) : Int); omega) (by rw [tk]) ?_
      refine w_ifne (fun c3 => ?_) (fun c3 => ?_)
      · refine w_aln rfl ?_
        refine w_gr gx rfl (by decide) rfl hB.2.1 ?_
        refine w_aln rfl ?_
        refine w_gr gx rfl (by decide) rfl hB.2.2.2.1 ?_
        refine w_iln rfl ?_
        refine w_aald (b := st) g119 rfl (by omega) (by show (k : Int) < ((2 : Nat) : Int); omega) (by rw [tk]; exact s1) ?_
        refine w_cv (st := []) rfl hA.2.2.1 rfl (Nat.le_of_ble_eq_true rfl) (fun kk h => h) (r_X6_copy hI gst hA.2.2.1 s0 hN.1 (lq_K hA hB (lq_ip_in k)) (lq_K hA hB hN.pin.1) (lq_ap hA (lq_ip_in k) hN.pin.1 (fun e => hN.pin.2 k e.symm)) (fun M1 I1 h hcr => ?_))
        refine w_aln rfl ?_
        refine w_gr gx rfl (by decide) rfl ((h.2.2.2.2.1 x 5 (by rw [gx]; unfold rv_no; decide)).trans x5) ?_
        refine w_ic ?_
        refine w_pi gud rfl (by decide) rfl (fun q => by cases q) ?_
        refine w_ic ?_
        exact w_iret (fun _ => Or.inr rfl) (h1 k hk rfl c3 M1 h ⟨st, s1, hcr⟩)
      · refine w_ic ?_
        exact w_iret (fun _ => Or.inl rfl) (h0 (Or.inr ⟨k, hk, rfl, c3⟩))
end IM
end
section
/-! ===== the class's worth: the PLAIN now stays ===== -/
def lw_w3 (a b c : Nat) : Nat → Option Nat := fun i => match i with
  | 0 => some a
  | 1 => some b
  | _ => some c
theorem lw_R3 {G : mj_G} {a b c t t' t'' n : Nat} {f : Nat → Int} (ha : G a = (t, 0)) (hb : G b = (t', 0)) (hc : G c = (t'', 0)) (h : t ≠ 0 ∧ t ≠ 1 ∧ t ≠ 50 ∧ t' ≠ 0 ∧ t' ≠ 1 ∧ t' ≠ 50 ∧ t'' ≠ 0 ∧ t'' ≠ 1 ∧ t'' ≠ 50) : ab_RR (n, f, 3, lw_w3 a b c) G [(t, 0), (t', 0), (t'', 0)] := ⟨rfl, fun i q e => by
  cases i with
  | zero =>
    cases e
    exact Or.inr (Or.inr (Or.inr ⟨h.1, h.2.1, h.2.2.1, a, rfl, ha⟩))
  | succ i => cases i with
    | zero =>
      cases e
      exact Or.inr (Or.inr (Or.inr ⟨h.2.2.2.1, h.2.2.2.2.1, h.2.2.2.2.2.1, b, rfl, hb⟩))
    | succ i => cases i with
      | zero =>
        cases e
        exact Or.inr (Or.inr (Or.inr ⟨h.2.2.2.2.2.2.1, h.2.2.2.2.2.2.2.1, h.2.2.2.2.2.2.2.2, c, rfl, hc⟩))
      | succ i => cases e⟩
theorem r_goOn {G : mj_G} {M : mj_M} {ye pl dl : Nat} {z : Int} {Q : mj_P} (hI : ab_Inv G M) (gye : G ye = (2010, 0)) (gpl : G pl = (1004, 0)) (gdl : G dl = (1002, 0)) (hz : 0 ≤ z ∧ z ≤ 12) (hQ : ∀ M', ab_Inv G M' → ab_frm (ab_w cd_222) G M M' → Q none G M') : mj_R mj_tab 38 93 [.inr (.inr (some ye)), .inr (.inr (some pl)), .inr (.inr (some dl)), .inl z] G M Q := by
  refine ab_all_ok 223 (Nat.le_refl _) 148 (by decide) 37 (by decide +kernel) G M (1, hn_g [z], 3, lw_w3 ye pl dl) _ Q (hn_Y1 hz) (lw_R3 gye gpl gdl (by decide)) (fun e he => by cases he) ⟨_, _, rfl, ⟨Nat.le_of_ble_eq_true rfl, rfl⟩, _, _, rfl, ⟨Nat.le_of_ble_eq_true rfl, rfl⟩, _, _, rfl, ⟨Nat.le_of_ble_eq_true rfl, rfl⟩, _, _, rfl, ⟨_, rfl, hn_I (Nat.le_of_ble_eq_true rfl) rfl⟩, rfl⟩ hI (fun r M' i f ⟨po, hpo, h⟩ => ?_)
  cases hpo with
  | head =>
    have hr : r = none := h.1
    rw [hr]; exact hQ M' i f
  | tail _ hpo => cases hpo
theorem rv_no_W {G : mj_G} {M M' : mj_M} {W : List (Nat × Nat × Nat)} (f : ab_frm W G M M') (key : ∀ q ∈ W, q.1 = 2010 ∨ q.1 = 73100 ∨ q.1 = 74100 ∨ q.1 = 75100 ∨ q.1 = 77100) (a k : Nat) (hn : rv_no (G a).1 ∨ (G a).1 = 1002) : M'.1 a k = M.1 a k ∧ M'.2.2 a k = M.2.2 a k := f a k (fun ⟨q, hq, g, _⟩ => by
  have hk := key q hq
  rw [g] at hk
  unfold rv_no at hn
  omega)
theorem r_tryY0 {G : mj_G} {M : mj_M} {x pl : Nat} {Q : mj_P} (hI : ab_Inv G M) (gx : G x = (1011, 0)) (gpl : G pl = (1004, 0)) (hQ : ∀ M', ab_Inv G M' → (∀ a k, rv_no (G a).1 → M'.1 a k = M.1 a k ∧ M'.2.2 a k = M.2.2 a k) → Q none G M') : mj_R mj_tab 39 153 [.inr (.inr (some x)), .inr (.inr (some pl))] G M Q := by
  obtain ⟨ye, x9, gye⟩ := hn_rf (k := 9) (q := (2010, 0)) hI gx rfl (by decide) (by decide) (by decide) (fun e => absurd e (by decide))
  obtain ⟨nw, x1, gnw⟩ := hn_rf (k := 1) (q := (1007, 0)) hI gx rfl (by decide) (by decide) (by decide) (fun e => absurd e (by decide))
  obtain ⟨dl, w1, gdl⟩ := hn_rf (k := 1) (q := (1002, 0)) hI gnw rfl (by decide) (by decide) (by decide) (fun e => absurd e (by decide))
  refine ⟨Nat.le_of_ble_eq_true rfl, ?_⟩
  show wz 38 mt_X11_tryYear.2.2.2.2.1 Q mt_X11_tryYear.2.2.2.2.1 [some (.inr (.inr (some x))), some (.inr (.inr (some pl)))] [] G M _ _
  refine w_aln rfl ?_
  refine w_gr gx rfl (by decide) rfl x9 ?_
  refine w_aln rfl ?_
  refine w_cv (st := []) rfl gye rfl (Nat.le_of_ble_eq_true rfl) (fun kk h => h) (lw_cc (c := cd_216) (dd := 37) (ab_all_ok 223 (Nat.le_refl _) 12 (by decide)) rfl (by decide +kernel) gye gpl (by decide) (by decide) (by decide) (by decide) (by decide) (by decide) (by decide +kernel) hI (fun M1 I1 f1 => ?_))
  have n1 := rv_no_W f1 (by decide +kernel)
  refine w_aln rfl ?_
  refine w_gr gx rfl (by decide) rfl ((n1 x 9 (Or.inl (by rw [gx]; unfold rv_no; decide))).2.trans x9) ?_
  refine w_aln rfl ?_
  refine w_aln rfl ?_
  refine w_gr gx rfl (by decide) rfl ((n1 x 1 (Or.inl (by rw [gx]; unfold rv_no; decide))).2.trans x1) ?_
  refine w_gr gnw rfl (by decide) rfl ((n1 nw 1 (Or.inl (by rw [gnw]; unfold rv_no; decide))).2.trans w1) ?_
  refine w_bp ?_
  refine w_cv (st := []) rfl gye rfl (Nat.le_of_ble_eq_true rfl) (fun kk h => h) (r_goOn I1 gye gpl gdl ⟨by decide, by decide⟩ (fun M2 I2 f2 => ?_))
  have n2 := rv_no_W f2 (by decide +kernel)
  exact w_ret (hQ M2 I2 (fun a k hn => ⟨(n2 a k (Or.inl hn)).1.trans (n1 a k (Or.inl hn)).1, (n2 a k (Or.inl hn)).2.trans (n1 a k (Or.inl hn)).2⟩))
theorem r_tryY {G : mj_G} {M : mj_M} {x pl : Nat} {Q : mj_P} (hI : ab_Inv G M) (gx : G x = (1011, 0)) (gpl : G pl = (1004, 0)) (hQ : ∀ M', ab_Inv G M' → (∀ a k, rv_no (G a).1 → M'.1 a k = M.1 a k ∧ M'.2.2 a k = M.2.2 a k) → ln G M M' → Q none G M') : mj_R mj_tab 39 153 [.inr (.inr (some x)), .inr (.inr (some pl))] G M Q := sn_ln (by decide +kernel) (r_tryY0 (Q := fun r G' M' => r = none ∧ ab_Inv G M' ∧ ∀ a k, rv_no (G a).1 → M'.1 a k = M.1 a k ∧ M'.2.2 a k = M.2.2 a k) hI gx gpl (fun M' i n => ⟨rfl, i, n⟩)) (fun r M' h l => by
  obtain ⟨rfl, i, n⟩ := h
  exact hQ M' i n l)
/-- what worth leaves: all but the spare PLAIN -/
def lq_u (G : mj_G) (w : Nat → Nat) (q : Nat) (M M' : mj_M) : Prop := (∀ a k, rv_no (G a).1 → M'.2.2 a k = M.2.2 a k) ∧ (∀ a, rv_no (G a).1 → (∀ j, j < 22 → a ≠ w (q + j)) → M'.1 a = M.1 a) ∧ (∀ a k, (G a).1 % 1000 = 103 → a ≠ w (q + 1) → M'.2.1 a k = M.2.1 a k)
theorem lq_u.tr {G : mj_G} {w : Nat → Nat} {q : Nat} {M M' M'' : mj_M} (h : lq_u G w q M M') (h' : lq_u G w q M' M'') : lq_u G w q M M'' := ⟨fun a k hn => (h'.1 a k hn).trans (h.1 a k hn), fun a hn hj => (h'.2.1 a hn hj).trans (h.2.1 a hn hj), fun a k hl hn => (h'.2.2 a k hl hn).trans (h.2.2 a k hl hn)⟩
section WO
variable {G : mj_G} {M : mj_M} {w : Nat → Nat} {x p q : Nat} {z1 : Int} {Q : mj_P}
theorem lq_N.qin (hN : lq_N M w p q) : q ∈ lq_Ps ∧ p ≠ q := by
  rcases hN.2.2 with ⟨rfl, rfl⟩ | ⟨rfl, rfl⟩
  · exact ⟨by decide, by decide⟩
  · exact ⟨by decide, by decide⟩
theorem lq_no29 (hA : lq_A G w) : rv_no (G (w 29)).1 ∧ rv_no (G (w 74)).1 := by
  rw [hA.2.2.1, hA.2.2.2.1]; unfold rv_no; decide
theorem ab_k32 : an_ok mj_tab 39 32 = true := by decide +kernel
theorem lq_B.no {M' : mj_M} (hB : lq_B M w x) (hA : lq_A G w) (gx : G x = (1011, 0)) (h : ∀ a k, rv_no (G a).1 → M'.2.2 a k = M.2.2 a k) : lq_B M' w x := by
  obtain ⟨h1, h2, h3, h4, h5, h6, h7, h8⟩ := hB
  have nx : rv_no (G x).1 := by rw [gx]; unfold rv_no; decide
  have n119 : rv_no (G (w 119)).1 := by rw [hA.2.2.2.2.2.2]; unfold rv_no; decide
  have n246 : rv_no (G (w 246)).1 := by rw [hA.2.2.2.2.1]; unfold rv_no; decide
  have n291 : rv_no (G (w 291)).1 := by rw [hA.2.2.2.2.2.1]; unfold rv_no; decide
  refine ⟨fun P hP => ?_, (h _ _ nx).trans h2, (h _ _ nx).trans h3, (h _ _ nx).trans h4, (h _ _ n119).trans h5, (h _ _ n119).trans h6, (h _ _ n246).trans h7, (h _ _ n291).trans h8⟩
  obtain ⟨g1, -, g3, g4, -⟩ := hA.2.1 P hP
  obtain ⟨b1, b2, b3, b4, b5, b6⟩ := h1 P hP
  have nP : rv_no (G (w P)).1 := by rw [g1]; unfold rv_no; decide
  have n2 : rv_no (G (w (P + 2))).1 := by rw [g3]; unfold rv_no; decide
  have n11 : rv_no (G (w (P + 11))).1 := by rw [g4]; unfold rv_no; decide
  exact ⟨(h _ _ nP).trans b1, (h _ _ nP).trans b2, (h _ _ nP).trans b3, (h _ _ nP).trans b4, fun t ht => (h _ _ n2).trans (b5 t ht), fun t ht => (h _ _ n11).trans (b6 t ht)⟩
theorem r_setBid0 {t k : Nat} {M1 : mj_M} (hA : lq_A G w) (hq : q ∈ lq_Ps) (r2 : M1.2.2 (w q) 2 = some (w (q + 11))) (rt : M1.2.2 (w (q + 11)) t = some (w (q + 12 + t))) (I1 : ab_Inv G M1) (ht : t < 8) (hk : k < 12) (hQ : ∀ M', ab_Inv G M' → lq_u G w q M1 M' → Q none G M') : mj_R mj_tab 39 47 [.inr (.inr (some (w q))), .inl (t : Int), .inl (k : Int), .inl 0] G M1 Q := by
  have h4 := lq_P4 hq
  obtain ⟨gq, -, -, gba, -, -, gbr⟩ := hA.2.1 q hq
  have gb := gbr t ht
  have noq : rv_no (G (w q)).1 := by rw [gq]; unfold rv_no; decide
  have noba : rv_no (G (w (q + 11))).1 := by rw [gba]; unfold rv_no; decide
  have tt : ((t : Int)).toNat = t := by omega
  refine ⟨Nat.le_of_ble_eq_true rfl, ?_⟩
  show wz 38 mt_X3_setBid.2.2.2.2.1 Q mt_X3_setBid.2.2.2.2.1 [some (.inr (.inr (some (w q)))), some (.inl (t : Int)), some (.inl (k : Int)), some (.inl 0)] [] G M1 _ _
  have tail : ∀ (M2 : mj_M) (cb sb : Nat), ab_Inv G M2 → lq_u G w q M1 M2 → wz 38 mt_X3_setBid.2.2.2.2.1 Q (mt_X3_setBid.2.2.2.2.1.drop 13) [some (.inr (.inr (some (w q)))), some (.inl (t : Int)), some (.inl (k : Int)), some (.inl 0)] [] G M2 cb sb := by
    intro M2 cb sb I2 u2
    refine w_iln rfl ?_
    refine w_ifle (fun _ => ?_) (fun c => absurd c (by decide))
    refine w_aln rfl ?_
    refine w_gr gq rfl (by decide) rfl ((u2.1 _ _ noq).trans r2) ?_
    refine w_iln rfl ?_
    refine w_aald (b := w (q + 12 + t)) gba rfl (by omega) (by show (t : Int) < ((8 : Nat) : Int); omega) (by rw [tt]; exact (u2.1 _ _ noba).trans rt) ?_
    refine w_iln rfl ?_
    refine w_iln rfl ?_
    refine w_iast gb rfl (by decide) (by omega) (by show (k : Int) < ((12 : Nat) : Int); omega) ?_
    refine w_ret (hQ _ (I2.p0 (by rw [gb]; exact hn_ii (z := 0) ⟨by decide, by decide⟩)) ⟨u2.1, fun a hn hj => (wz_c (fun e => hj (12 + t) (by omega) (by rw [e, Nat.add_assoc]))).trans (u2.2.1 a hn hj), u2.2.2⟩)
  refine w_aln rfl ?_
  refine w_gr gq rfl (by decide) rfl r2 ?_
  refine w_iln rfl ?_
  refine w_aald (b := w (q + 12 + t)) gba rfl (by omega) (by show (t : Int) < ((8 : Nat) : Int); omega) (by rw [tt]; exact rt) ?_
  refine w_iln rfl ?_
  refine w_iald gb rfl (by omega) (by show (k : Int) < ((12 : Nat) : Int); omega) rfl ?_
  refine w_ifle (fun _ => tail M1 _ _ I1 ⟨fun _ _ _ => rfl, fun _ _ _ => rfl, fun _ _ _ _ => rfl⟩) (fun _ => ?_)
  refine w_aln rfl ?_
  refine w_dupr ?_
  refine w_gi gq rfl (by decide) rfl rfl ?_
  refine w_ic ?_
  refine w_subw ?_
  intro z hz ez
  refine w_pi gq rfl (by decide) rfl (fun q => by cases q) ?_
  exact tail _ _ _ (I1.p0 (by rw [gq]; exact hn_ii hz)) ⟨fun _ _ _ => rfl, fun a hn hj => wz_c (fun e => hj 0 (by omega) (by rw [e]; rfl)), fun _ _ _ _ => rfl⟩
/-- the loop that takes a town's bids from the spare PLAIN -/
theorem r_wo_loop {t : Nat} {z2 : Int} (gx : G x = (1011, 0)) (hA : lq_A G w) (hB : lq_B M w x) (hN : lq_N M w p q) (ht : t < 8) : ∀ (f k : Nat) (M1 : mj_M) (cb sb : Nat), k + f = 12 → ab_Inv G M1 → lq_u G w q M M1 → (∀ M', ab_Inv G M' → lq_u G w q M M' → wz 39 mt_X11_worth.2.2.2.2.1 Q (mt_X11_worth.2.2.2.2.1.drop 36) [some (.inr (.inr (some x))), some (.inl (t : Int)), some (.inl z2), some (.inl 12)] [] G M' cb sb) → wz 39 mt_X11_worth.2.2.2.2.1 Q (mt_X11_worth.2.2.2.2.1.drop 24) [some (.inr (.inr (some x))), some (.inl (t : Int)), some (.inl z2), some (.inl (k : Int))] [] G M1 cb sb := by
  have hq := hN.qin.1
  have h4 := lq_P4 hq
  obtain ⟨gq, -, -, gba, -, -, gbr⟩ := hA.2.1 q hq
  obtain ⟨-, -, b2, -, -, bb⟩ := hB.1 q hq
  have nox : rv_no (G x).1 := by rw [gx]; unfold rv_no; decide
  have noq : rv_no (G (w q)).1 := by rw [gq]; unfold rv_no; decide
  have noba : rv_no (G (w (q + 11))).1 := by rw [gba]; unfold rv_no; decide
  intro f
  induction f with
  | zero =>
    intro k M1 cb sb hk I1 u1 kk
    have e : k = 12 := by omega
    subst e
    refine w_iln rfl ?_
    refine w_bp ?_
    refine w_cmge (fun c => ?_) (fun c => by exfalso; omega)
    exact kk M1 I1 u1
  | succ f ih =>
    intro k M1 cb sb hk I1 u1 kk
    refine w_iln rfl ?_
    refine w_bp ?_
    refine w_cmge (fun c => by exfalso; omega) (fun c => ?_)
    refine w_aln rfl ?_
    refine w_gr gx rfl (by decide) rfl ((u1.1 x 2 nox).trans hB.2.2.1) ?_
    refine w_gr hA.2.2.2.1 rfl (by decide) rfl ((u1.1 (w 74) 0 (lq_no29 hA).2).trans hN.2.1) ?_
    refine w_iln rfl ?_
    refine w_iln rfl ?_
    refine w_ic ?_
    refine w_cv (st := []) rfl gq rfl (Nat.le_of_ble_eq_true rfl) (fun kk h => h) (r_setBid0 hA hq ((u1.1 _ _ noq).trans b2) ((u1.1 _ _ noba).trans (bb t ht)) I1 ht (by omega) (fun M2 I2 u2 => ?_))
    refine w_ii rfl ⟨by omega, by omega⟩ ?_
    refine w_goto ?_
    exact ih (k + 1) M2 _ _ (by omega) I2 (u1.tr u2) kk
set_option maxRecDepth 100000 in
theorem r_X11_worth4 (hI : ab_Inv G M) (gx : G x = (1011, 0)) (hA : lq_A G w) (hB : lq_B M w x) (hN : lq_N M w p q) (hQ : ∀ z M', lq_u G w q M M' → Q (some (.inl z)) G M') : mj_R mj_tab 40 157 [.inr (.inr (some x)), .inl z1] G M Q := by
  have hp := hN.pin.1
  have hq := hN.qin.1
  have h4 := lq_P4 hq
  obtain ⟨gp, -⟩ := hA.2.1 p hp
  obtain ⟨gq, -, -, -, gwq, gtq, gbq⟩ := hA.2.1 q hq
  have nox : rv_no (G x).1 := by rw [gx]; unfold rv_no; decide
  obtain ⟨ye, x9, gye⟩ := hn_rf (k := 9) (q := (2010, 0)) hI gx rfl (by decide) (by decide) (by decide) (fun e => absurd e (by decide))
  have b8 : 0 ≤ M.1 (w p) 4 ∧ M.1 (w p) 4 ≤ 8 := by
    have h := hI.1 (w p) 4
    rw [gp] at h
    exact h
  refine ⟨Nat.le_of_ble_eq_true rfl, ?_⟩
  show wz 39 mt_X11_worth.2.2.2.2.1 Q mt_X11_worth.2.2.2.2.1 [some (.inr (.inr (some x))), some (.inl z1), none, none] [] G M _ _
  refine w_aln rfl ?_
  refine w_iln rfl ?_
  refine w_cv (st := []) rfl gx rfl (Nat.le_of_ble_eq_true rfl) (fun kk h => h) ⟨Nat.le_of_ble_eq_true rfl, ?_⟩
  show wz 38 mt_X11_isTown.2.2.2.2.1 _ mt_X11_isTown.2.2.2.2.1 [some (.inr (.inr (some x))), some (.inl z1)] [] _ _ _ _
  have bad : ∀ (cb sb : Nat), wz 39 mt_X11_worth.2.2.2.2.1 Q (mt_X11_worth.2.2.2.2.1.drop 3) [some (.inr (.inr (some x))), some (.inl z1), none, none] [.inl 0] G M cb sb := by
    intro cb sb
    refine w_ifne (fun c => absurd rfl c) (fun _ => ?_)
    refine w_sp ?_
    exact w_iret (fun q => by cases q) (hQ _ M ⟨fun _ _ _ => rfl, fun _ _ _ => rfl, fun _ _ _ _ => rfl⟩)
  refine w_iln rfl ?_
  refine w_iflt (fun c => ?_) (fun c => ?_)
  · refine w_ic ?_
    exact w_iret (fun _ => Or.inl rfl) (bad _ _)
  · refine w_iln rfl ?_
    refine w_aln rfl ?_
    refine w_gr gx rfl (by decide) rfl hB.2.1 ?_
    refine w_gr hA.2.2.1 rfl (by decide) rfl hN.1 ?_
    refine w_gi gp rfl (by decide) rfl rfl ?_
    refine w_cmge (fun c2 => ?_) (fun c2 => ?_)
    · refine w_ic ?_
      exact w_iret (fun _ => Or.inl rfl) (bad _ _)
    · obtain ⟨t, ht, et⟩ : ∃ t : Nat, t < 8 ∧ z1 = (t : Int) := ⟨z1.toNat, by omega, by omega⟩
      subst et
      refine w_ic ?_
      refine w_goto ?_
      refine w_iret (fun _ => Or.inr rfl) ?_
      refine w_ifne (fun _ => ?_) (fun c => absurd c (by decide))
      refine w_aln rfl ?_
      refine w_aln rfl ?_
      refine w_gr gx rfl (by decide) rfl hB.2.1 ?_
      refine w_gr hA.2.2.1 rfl (by decide) rfl hN.1 ?_
      refine w_cv (st := []) rfl gx rfl (Nat.le_of_ble_eq_true rfl) (fun kk h => h) (r_tryY hI gx gp (fun M1 I1 n1 l1 => ?_))
      have u1 : lq_u G w q M M1 := ⟨fun a k hn => (n1 a k hn).2, fun a hn _ => funext fun k => (n1 a k hn).1, fun a k hl _ => l1 a k hl⟩
      refine w_aln rfl ?_
      refine w_gr gx rfl (by decide) rfl ((u1.1 x 9 nox).trans x9) ?_
      refine w_gi gye rfl (by decide) rfl rfl ?_
      refine w_isn ?_
      refine w_aln rfl ?_
      refine w_gr gx rfl (by decide) rfl ((u1.1 x 2 nox).trans hB.2.2.1) ?_
      refine w_gr hA.2.2.2.1 rfl (by decide) rfl ((u1.1 (w 74) 0 (lq_no29 hA).2).trans hN.2.1) ?_
      refine w_aln rfl ?_
      refine w_gr gx rfl (by decide) rfl ((u1.1 x 1 nox).trans hB.2.1) ?_
      refine w_gr hA.2.2.1 rfl (by decide) rfl ((u1.1 (w 29) 0 (lq_no29 hA).1).trans hN.1) ?_
      have hB1 : lq_B M1 w x := hB.no hA gx u1.1
      refine w_cv (st := []) rfl gq rfl (Nat.le_of_ble_eq_true rfl) (fun kk h => h) (lq_and ab_k32 (lw_cc (c := cd_30) (dd := 38) (Q := fun r G' M' => r = none ∧ G = G' ∧ ab_Inv G M') (ab_all_ok 223 (Nat.le_refl _) 33 (by decide)) rfl (by decide +kernel) gq gp (by decide) (by decide) (by decide) (by decide) (by decide) (by decide) (by decide +kernel) I1 (fun M' i f => ⟨rfl, rfl, i⟩)) (r_X3_copy (d := 38) (Q := fun _ _ M' => rv_cp (w p) (w (p + 1)) (w (p + 20)) (w q) (w (q + 1)) (w (q + 20)) (fun t => w (p + 3 + t)) (fun t => w (p + 12 + t)) (fun t => w (q + 3 + t)) (fun t => w (q + 12 + t)) M1 M') (lq_K hA hB1 hp) (lq_K hA hB1 hq) (lq_ap hA hp hq hN.qin.2) (fun M' h => h)) (fun r G' M2 h1 h2 => ?_))
      obtain ⟨rfl, rfl, I2⟩ := h1
      obtain ⟨-, -, -, -, -, -, c7, c8, c9⟩ := h2
      have u2 : lq_u G w q M M2 := u1.tr ⟨fun a k _ => by rw [c7], fun a hn hj => c9 a (hj 0 (by omega)) (hj 20 (by omega)) (fun t ht => by have := hj (3 + t) (by omega); rw [← Nat.add_assoc] at this; exact this) (fun t ht => by have := hj (12 + t) (by omega); rw [← Nat.add_assoc] at this; exact this), fun a k hl hn => congrFun (c8 a hn) k⟩
      refine w_ic ?_
      refine w_isn ?_
      refine r_wo_loop gx hA hB hN ht 12 0 M2 _ _ (by omega) I2 u2 (fun M3 I3 u3 => ?_)
      refine w_aln rfl ?_
      refine w_aln rfl ?_
      refine w_gr gx rfl (by decide) rfl ((u3.1 x 2 nox).trans hB.2.2.1) ?_
      refine w_gr hA.2.2.2.1 rfl (by decide) rfl ((u3.1 (w 74) 0 (lq_no29 hA).2).trans hN.2.1) ?_
      refine w_cv (st := []) rfl gx rfl (Nat.le_of_ble_eq_true rfl) (fun kk h => h) (r_tryY I3 gx gq (fun M4 I4 n4 l4 => ?_))
      have u4 : lq_u G w q M M4 := u3.tr ⟨fun a k hn => (n4 a k hn).2, fun a hn _ => funext fun k => (n4 a k hn).1, fun a k hl _ => l4 a k hl⟩
      refine w_iln rfl ?_
      refine w_aln rfl ?_
      refine w_gr gx rfl (by decide) rfl ((u4.1 x 9 nox).trans x9) ?_
      refine w_gi gye rfl (by decide) rfl rfl ?_
      refine w_subw ?_
      intro z hz ez
      exact w_iret (fun q => by cases q) (hQ _ M4 u4)
end WO
end
section
/-! ===== every text has one answer (laid by a program) ===== -/
abbrev rv_Om : Type := (Int × Nat) ⊕ ((Nat → Int) × (Nat → Int) × (Nat → Int) × (Nat → Nat → Int) × (Nat → Nat → Int) × (Nat → List Int) × Nat)
def rv_Dt (S : (rv_Om → Prop) → Prop) : Prop := ∃ y, ∀ P : rv_Om → Prop, P y → S P
theorem dt_f (f : Int) (a : Nat) : rv_Dt (fun P => P (.inl (f, a))) := ⟨_, fun _ h => h⟩
theorem dt_if {c : Prop} {A B : (rv_Om → Prop) → Prop} (hA : rv_Dt A) (hB : rv_Dt B) : rv_Dt (fun P => (c → A P) ∧ (¬ c → B P)) := by
  by_cases h : c
  · obtain ⟨y, hy⟩ := hA
    exact ⟨y, fun P p => ⟨fun _ => hy P p, fun n => absurd h n⟩⟩
  · obtain ⟨y, hy⟩ := hB
    exact ⟨y, fun P p => ⟨fun n => absurd n h, fun _ => hy P p⟩⟩
section DT
variable {T : Nat → Nat × Nat × Int × List Int × Nat} {p : Nat} {A : (rv_Om → Prop) → Prop}
theorem dt_num {lo hi : Int} (hA : rv_Dt A) : rv_Dt (fun P => sp_num T lo hi p (fun f a => P (.inl (f, a))) (A P)) := by
  obtain ⟨y, hy⟩ := hA
  by_cases c1 : (T p).1 = 2
  · by_cases c2 : lo ≤ (T p).2.2.1
    · by_cases c3 : (T p).2.2.1 ≤ hi
      · exact ⟨y, fun P k => ⟨fun _ => ⟨fun _ => ⟨fun _ => hy P k, fun n => absurd c3 n⟩, fun n => absurd c2 n⟩, fun n => absurd c1 n⟩⟩
      · exact ⟨.inl (2, (T p).2.1), fun P k => ⟨fun _ => ⟨fun _ => ⟨fun n => absurd n c3, fun _ => k⟩, fun n => absurd c2 n⟩, fun n => absurd c1 n⟩⟩
    · exact ⟨.inl (2, (T p).2.1), fun P k => ⟨fun _ => ⟨fun n => absurd n c2, fun _ => k⟩, fun n => absurd c1 n⟩⟩
  · exact ⟨.inl (1, (T p).2.1), fun P k => ⟨fun n => absurd n c1, fun _ => k⟩⟩
theorem dt_sgn {c : Int} (hA : rv_Dt A) : rv_Dt (fun P => sp_sgn T c p (fun f a => P (.inl (f, a))) (A P)) := by
  obtain ⟨y, hy⟩ := hA
  by_cases c1 : (T p).1 = 3
  · by_cases c2 : (T p).2.2.1 = c
    · exact ⟨y, fun P k => ⟨fun _ => ⟨fun _ => hy P k, fun n => absurd c2 n⟩, fun n => absurd c1 n⟩⟩
    · exact ⟨.inl (1, (T p).2.1), fun P k => ⟨fun _ => ⟨fun n => absurd n c2, fun _ => k⟩, fun n => absurd c1 n⟩⟩
  · exact ⟨.inl (1, (T p).2.1), fun P k => ⟨fun n => absurd n c1, fun _ => k⟩⟩
theorem dt_nam (hA : rv_Dt A) : rv_Dt (fun P => sp_nam T p (fun f a => P (.inl (f, a))) (A P)) := by
  obtain ⟨y, hy⟩ := hA
  by_cases c1 : (T p).1 = 1
  · by_cases c2 : rv_nam (T p).2.2.2.1
    · exact ⟨y, fun P k => ⟨fun _ => ⟨fun _ => hy P k, fun n => absurd c2 n⟩, fun n => absurd c1 n⟩⟩
    · exact ⟨.inl (1, (T p).2.1), fun P k => ⟨fun _ => ⟨fun n => absurd n c2, fun _ => k⟩, fun n => absurd c1 n⟩⟩
  · exact ⟨.inl (1, (T p).2.1), fun P k => ⟨fun n => absurd n c1, fun _ => k⟩⟩
theorem dt_find {nm : Nat → List Int} {k : Int} {w : List Int} {K : Int → (rv_Om → Prop) → Prop} (hK : ∀ r, rv_Dt (K r)) : rv_Dt (fun P => sp_find nm k w (fun r => K r P)) := by
  by_cases h : ∃ r : Nat, (r : Int) < k ∧ nm r = w ∧ ∀ j, j < r → nm j ≠ w
  · obtain ⟨r, h1, h2, h3⟩ := h
    obtain ⟨y, hy⟩ := hK (r : Int)
    refine ⟨y, fun P p => ⟨fun r' g1 g2 g3 => ?_, fun g => absurd h2 (g r h1)⟩⟩
    have e : r' = r := by
      rcases Nat.lt_trichotomy r' r with q | q | q
      · exact absurd g2 (h3 r' q)
      · exact q
      · exact absurd h2 (g3 r q)
    rw [e]; exact hy P p
  · obtain ⟨y, hy⟩ := hK (-1)
    exact ⟨y, fun P p => ⟨fun r' g1 g2 g3 => absurd ⟨r', g1, g2, g3⟩ h, fun _ => hy P p⟩⟩
theorem dt_town {PL WA OA : Nat → Int} {TO BI : Nat → Nat → Int} {nm : Nat → List Int} {q : Nat} {K : (Nat → Int) → (Nat → Int) → (Nat → Int) → (Nat → Nat → Int) → (Nat → Nat → Int) → (Nat → List Int) → Nat → (rv_Om → Prop) → Prop} (hK : ∀ PL WA OA TO BI nm q', rv_Dt (K PL WA OA TO BI nm q')) : rv_Dt (fun P => sp_town T PL WA OA TO BI nm q (fun f a => P (.inl (f, a))) (fun PL WA OA TO BI nm q' => K PL WA OA TO BI nm q' P)) := by
  unfold sp_town
  exact (dt_if (dt_f _ _) (dt_nam (dt_find (fun r => (dt_if (dt_num (dt_num (dt_num (dt_num (hK _ _ _ _ _ _ _))))) (dt_f _ _))))))
theorem dt_water {PL WA OA : Nat → Int} {TO BI : Nat → Nat → Int} {nm : Nat → List Int} {q : Nat} {K : (Nat → Int) → (Nat → Int) → (Nat → Int) → (Nat → Nat → Int) → (Nat → Nat → Int) → (Nat → List Int) → Nat → (rv_Om → Prop) → Prop} (hK : ∀ PL WA OA TO BI nm q', rv_Dt (K PL WA OA TO BI nm q')) : rv_Dt (fun P => sp_water T PL WA OA TO BI nm q (fun f a => P (.inl (f, a))) (fun PL WA OA TO BI nm q' => K PL WA OA TO BI nm q' P)) := by
  unfold sp_water
  exact (dt_num (dt_if (dt_num (hK _ _ _ _ _ _ _)) (dt_f _ _)))
theorem dt_bid {PL WA OA : Nat → Int} {TO BI : Nat → Nat → Int} {nm : Nat → List Int} {q : Nat} {K : (Nat → Int) → (Nat → Int) → (Nat → Int) → (Nat → Nat → Int) → (Nat → Nat → Int) → (Nat → List Int) → Nat → (rv_Om → Prop) → Prop} (hK : ∀ PL WA OA TO BI nm q', rv_Dt (K PL WA OA TO BI nm q')) : rv_Dt (fun P => sp_bid T PL WA OA TO BI nm q (fun f a => P (.inl (f, a))) (fun PL WA OA TO BI nm q' => K PL WA OA TO BI nm q' P)) := by
  unfold sp_bid
  exact (dt_if (dt_f _ _) (dt_nam (dt_find (fun r => (dt_if (dt_f _ _) (dt_num (dt_if (dt_num (hK _ _ _ _ _ _ _)) (dt_f _ _))))))))
theorem dt_need {PL WA OA : Nat → Int} {TO BI : Nat → Nat → Int} {nm : Nat → List Int} {q : Nat} {K : (Nat → Int) → (Nat → Int) → (Nat → Int) → (Nat → Nat → Int) → (Nat → Nat → Int) → (Nat → List Int) → Nat → (rv_Om → Prop) → Prop} (hK : ∀ PL WA OA TO BI nm q', rv_Dt (K PL WA OA TO BI nm q')) : rv_Dt (fun P => sp_need T PL WA OA TO BI nm q (fun f a => P (.inl (f, a))) (fun PL WA OA TO BI nm q' => K PL WA OA TO BI nm q' P)) := by
  unfold sp_need
  exact (dt_nam (dt_find (fun r => (dt_if (dt_f _ _) (dt_if (dt_num (hK _ _ _ _ _ _ _)) (dt_f _ _))))))
theorem dt_mill {PL WA OA : Nat → Int} {TO BI : Nat → Nat → Int} {nm : Nat → List Int} {q : Nat} {K : (Nat → Int) → (Nat → Int) → (Nat → Int) → (Nat → Nat → Int) → (Nat → Nat → Int) → (Nat → List Int) → Nat → (rv_Om → Prop) → Prop} (hK : ∀ PL WA OA TO BI nm q', rv_Dt (K PL WA OA TO BI nm q')) : rv_Dt (fun P => sp_mill T PL WA OA TO BI nm q (fun f a => P (.inl (f, a))) (fun PL WA OA TO BI nm q' => K PL WA OA TO BI nm q' P)) := by
  unfold sp_mill
  exact (dt_nam (dt_find (fun r => (dt_if (dt_f _ _) (dt_if (dt_num (hK _ _ _ _ _ _ _)) (dt_f _ _))))))
theorem dt_bridge {PL WA OA : Nat → Int} {TO BI : Nat → Nat → Int} {nm : Nat → List Int} {q : Nat} {K : (Nat → Int) → (Nat → Int) → (Nat → Int) → (Nat → Nat → Int) → (Nat → Nat → Int) → (Nat → List Int) → Nat → (rv_Om → Prop) → Prop} (hK : ∀ PL WA OA TO BI nm q', rv_Dt (K PL WA OA TO BI nm q')) : rv_Dt (fun P => sp_bridge T PL WA OA TO BI nm q (fun f a => P (.inl (f, a))) (fun PL WA OA TO BI nm q' => K PL WA OA TO BI nm q' P)) := by
  unfold sp_bridge
  exact (dt_nam (dt_find (fun r => (dt_if (dt_f _ _) (dt_if (dt_num (hK _ _ _ _ _ _ _)) (dt_f _ _))))))
theorem dt_field {PL WA OA : Nat → Int} {TO BI : Nat → Nat → Int} {nm : Nat → List Int} {q : Nat} {K : (Nat → Int) → (Nat → Int) → (Nat → Int) → (Nat → Nat → Int) → (Nat → Nat → Int) → (Nat → List Int) → Nat → (rv_Om → Prop) → Prop} (hK : ∀ PL WA OA TO BI nm q', rv_Dt (K PL WA OA TO BI nm q')) : rv_Dt (fun P => sp_field T PL WA OA TO BI nm q (fun f a => P (.inl (f, a))) (fun PL WA OA TO BI nm q' => K PL WA OA TO BI nm q' P)) := by
  unfold sp_field
  exact (dt_nam (dt_find (fun r => (dt_if (dt_f _ _) (dt_if (dt_num (dt_num (hK _ _ _ _ _ _ _))) (dt_f _ _))))))
theorem dt_move {PL WA OA : Nat → Int} {TO BI : Nat → Nat → Int} {nm : Nat → List Int} {q : Nat} {K : (Nat → Int) → (Nat → Int) → (Nat → Int) → (Nat → Nat → Int) → (Nat → Nat → Int) → (Nat → List Int) → Nat → (rv_Om → Prop) → Prop} (hK : ∀ PL WA OA TO BI nm q', rv_Dt (K PL WA OA TO BI nm q')) : rv_Dt (fun P => sp_move T PL WA OA TO BI nm q (fun f a => P (.inl (f, a))) (fun PL WA OA TO BI nm q' => K PL WA OA TO BI nm q' P)) := by
  unfold sp_move
  exact (dt_if (dt_num (hK _ _ _ _ _ _ _)) (dt_f _ _))
theorem dt_fish {PL WA OA : Nat → Int} {TO BI : Nat → Nat → Int} {nm : Nat → List Int} {q : Nat} {K : (Nat → Int) → (Nat → Int) → (Nat → Int) → (Nat → Nat → Int) → (Nat → Nat → Int) → (Nat → List Int) → Nat → (rv_Om → Prop) → Prop} (hK : ∀ PL WA OA TO BI nm q', rv_Dt (K PL WA OA TO BI nm q')) : rv_Dt (fun P => sp_fish T PL WA OA TO BI nm q (fun f a => P (.inl (f, a))) (fun PL WA OA TO BI nm q' => K PL WA OA TO BI nm q' P)) := by
  unfold sp_fish
  exact (dt_if (dt_num (hK _ _ _ _ _ _ _)) (dt_f _ _))
theorem dt_patience {PL WA OA : Nat → Int} {TO BI : Nat → Nat → Int} {nm : Nat → List Int} {q : Nat} {K : (Nat → Int) → (Nat → Int) → (Nat → Int) → (Nat → Nat → Int) → (Nat → Nat → Int) → (Nat → List Int) → Nat → (rv_Om → Prop) → Prop} (hK : ∀ PL WA OA TO BI nm q', rv_Dt (K PL WA OA TO BI nm q')) : rv_Dt (fun P => sp_patience T PL WA OA TO BI nm q (fun f a => P (.inl (f, a))) (fun PL WA OA TO BI nm q' => K PL WA OA TO BI nm q' P)) := by
  unfold sp_patience
  exact (dt_if (dt_num (hK _ _ _ _ _ _ _)) (dt_f _ _))
theorem dt_row {PL WA OA : Nat → Int} {TO BI : Nat → Nat → Int} {nm : Nat → List Int} {q : Nat} {K : (Nat → Int) → (Nat → Int) → (Nat → Int) → (Nat → Nat → Int) → (Nat → Nat → Int) → (Nat → List Int) → Nat → (rv_Om → Prop) → Prop} (hK : ∀ PL WA OA TO BI nm q', rv_Dt (K PL WA OA TO BI nm q')) : rv_Dt (fun P => sp_row T PL WA OA TO BI nm q (fun f a => P (.inl (f, a))) (fun PL WA OA TO BI nm q' => K PL WA OA TO BI nm q' P)) := by
  by_cases c : (T q).1 = 1 ∧ ¬ rv_nam (T q).2.2.2.1
  · have : ∃ j, j < 24 ∧ rv_rs.getD j [] = (T q).2.2.2.1 := Classical.byContradiction (fun g => c.2 (fun j hj e => g ⟨j, hj, e⟩))
    obtain ⟨j, j1, hj⟩ := this
    have key : rv_Dt (fun P => (j = 0 → sp_town T PL WA OA TO BI nm q (fun f a => P (.inl (f, a))) (fun PL WA OA TO BI nm q' => K PL WA OA TO BI nm q' P)) ∧ (j = 1 → sp_water T PL WA OA TO BI nm q (fun f a => P (.inl (f, a))) (fun PL WA OA TO BI nm q' => K PL WA OA TO BI nm q' P)) ∧ (j = 2 → sp_bid T PL WA OA TO BI nm q (fun f a => P (.inl (f, a))) (fun PL WA OA TO BI nm q' => K PL WA OA TO BI nm q' P)) ∧ (j = 3 → sp_need T PL WA OA TO BI nm q (fun f a => P (.inl (f, a))) (fun PL WA OA TO BI nm q' => K PL WA OA TO BI nm q' P)) ∧ (j = 4 → sp_mill T PL WA OA TO BI nm q (fun f a => P (.inl (f, a))) (fun PL WA OA TO BI nm q' => K PL WA OA TO BI nm q' P)) ∧ (j = 5 → sp_bridge T PL WA OA TO BI nm q (fun f a => P (.inl (f, a))) (fun PL WA OA TO BI nm q' => K PL WA OA TO BI nm q' P)) ∧ (j = 6 → sp_field T PL WA OA TO BI nm q (fun f a => P (.inl (f, a))) (fun PL WA OA TO BI nm q' => K PL WA OA TO BI nm q' P)) ∧ (j = 7 → sp_move T PL WA OA TO BI nm q (fun f a => P (.inl (f, a))) (fun PL WA OA TO BI nm q' => K PL WA OA TO BI nm q' P)) ∧ (j = 8 → sp_fish T PL WA OA TO BI nm q (fun f a => P (.inl (f, a))) (fun PL WA OA TO BI nm q' => K PL WA OA TO BI nm q' P)) ∧ (j = 9 → sp_patience T PL WA OA TO BI nm q (fun f a => P (.inl (f, a))) (fun PL WA OA TO BI nm q' => K PL WA OA TO BI nm q' P)) ∧ (10 ≤ j → P (.inl (1, (T q).2.1)))) := by
      rcases Nat.lt_or_ge j 10 with q1 | q1
      · have hjj : j = 0 ∨ j = 1 ∨ j = 2 ∨ j = 3 ∨ j = 4 ∨ j = 5 ∨ j = 6 ∨ j = 7 ∨ j = 8 ∨ j = 9 := by omega
        rcases hjj with rfl | rfl | rfl | rfl | rfl | rfl | rfl | rfl | rfl | rfl
        · obtain ⟨y, hy⟩ := dt_town (T := T) (PL := PL) (WA := WA) (OA := OA) (TO := TO) (BI := BI) (nm := nm) (q := q) hK
          exact ⟨y, fun P p => ⟨fun _ => hy P p, fun e => absurd e (by decide), fun e => absurd e (by decide), fun e => absurd e (by decide), fun e => absurd e (by decide), fun e => absurd e (by decide), fun e => absurd e (by decide), fun e => absurd e (by decide), fun e => absurd e (by decide), fun e => absurd e (by decide), fun e => absurd e (by decide)⟩⟩
        · obtain ⟨y, hy⟩ := dt_water (T := T) (PL := PL) (WA := WA) (OA := OA) (TO := TO) (BI := BI) (nm := nm) (q := q) hK
          exact ⟨y, fun P p => ⟨fun e => absurd e (by decide), fun _ => hy P p, fun e => absurd e (by decide), fun e => absurd e (by decide), fun e => absurd e (by decide), fun e => absurd e (by decide), fun e => absurd e (by decide), fun e => absurd e (by decide), fun e => absurd e (by decide), fun e => absurd e (by decide), fun e => absurd e (by decide)⟩⟩
        · obtain ⟨y, hy⟩ := dt_bid (T := T) (PL := PL) (WA := WA) (OA := OA) (TO := TO) (BI := BI) (nm := nm) (q := q) hK
          exact ⟨y, fun P p => ⟨fun e => absurd e (by decide), fun e => absurd e (by decide), fun _ => hy P p, fun e => absurd e (by decide), fun e => absurd e (by decide), fun e => absurd e (by decide), fun e => absurd e (by decide), fun e => absurd e (by decide), fun e => absurd e (by decide), fun e => absurd e (by decide), fun e => absurd e (by decide)⟩⟩
        · obtain ⟨y, hy⟩ := dt_need (T := T) (PL := PL) (WA := WA) (OA := OA) (TO := TO) (BI := BI) (nm := nm) (q := q) hK
          exact ⟨y, fun P p => ⟨fun e => absurd e (by decide), fun e => absurd e (by decide), fun e => absurd e (by decide), fun _ => hy P p, fun e => absurd e (by decide), fun e => absurd e (by decide), fun e => absurd e (by decide), fun e => absurd e (by decide), fun e => absurd e (by decide), fun e => absurd e (by decide), fun e => absurd e (by decide)⟩⟩
        · obtain ⟨y, hy⟩ := dt_mill (T := T) (PL := PL) (WA := WA) (OA := OA) (TO := TO) (BI := BI) (nm := nm) (q := q) hK
          exact ⟨y, fun P p => ⟨fun e => absurd e (by decide), fun e => absurd e (by decide), fun e => absurd e (by decide), fun e => absurd e (by decide), fun _ => hy P p, fun e => absurd e (by decide), fun e => absurd e (by decide), fun e => absurd e (by decide), fun e => absurd e (by decide), fun e => absurd e (by decide), fun e => absurd e (by decide)⟩⟩
        · obtain ⟨y, hy⟩ := dt_bridge (T := T) (PL := PL) (WA := WA) (OA := OA) (TO := TO) (BI := BI) (nm := nm) (q := q) hK
          exact ⟨y, fun P p => ⟨fun e => absurd e (by decide), fun e => absurd e (by decide), fun e => absurd e (by decide), fun e => absurd e (by decide), fun e => absurd e (by decide), fun _ => hy P p, fun e => absurd e (by decide), fun e => absurd e (by decide), fun e => absurd e (by decide), fun e => absurd e (by decide), fun e => absurd e (by decide)⟩⟩
        · obtain ⟨y, hy⟩ := dt_field (T := T) (PL := PL) (WA := WA) (OA := OA) (TO := TO) (BI := BI) (nm := nm) (q := q) hK
          exact ⟨y, fun P p => ⟨fun e => absurd e (by decide), fun e => absurd e (by decide), fun e => absurd e (by decide), fun e => absurd e (by decide), fun e => absurd e (by decide), fun e => absurd e (by decide), fun _ => hy P p, fun e => absurd e (by decide), fun e => absurd e (by decide), fun e => absurd e (by decide), fun e => absurd e (by decide)⟩⟩
        · obtain ⟨y, hy⟩ := dt_move (T := T) (PL := PL) (WA := WA) (OA := OA) (TO := TO) (BI := BI) (nm := nm) (q := q) hK
          exact ⟨y, fun P p => ⟨fun e => absurd e (by decide), fun e => absurd e (by decide), fun e => absurd e (by decide), fun e => absurd e (by decide), fun e => absurd e (by decide), fun e => absurd e (by decide), fun e => absurd e (by decide), fun _ => hy P p, fun e => absurd e (by decide), fun e => absurd e (by decide), fun e => absurd e (by decide)⟩⟩
        · obtain ⟨y, hy⟩ := dt_fish (T := T) (PL := PL) (WA := WA) (OA := OA) (TO := TO) (BI := BI) (nm := nm) (q := q) hK
          exact ⟨y, fun P p => ⟨fun e => absurd e (by decide), fun e => absurd e (by decide), fun e => absurd e (by decide), fun e => absurd e (by decide), fun e => absurd e (by decide), fun e => absurd e (by decide), fun e => absurd e (by decide), fun e => absurd e (by decide), fun _ => hy P p, fun e => absurd e (by decide), fun e => absurd e (by decide)⟩⟩
        · obtain ⟨y, hy⟩ := dt_patience (T := T) (PL := PL) (WA := WA) (OA := OA) (TO := TO) (BI := BI) (nm := nm) (q := q) hK
          exact ⟨y, fun P p => ⟨fun e => absurd e (by decide), fun e => absurd e (by decide), fun e => absurd e (by decide), fun e => absurd e (by decide), fun e => absurd e (by decide), fun e => absurd e (by decide), fun e => absurd e (by decide), fun e => absurd e (by decide), fun e => absurd e (by decide), fun _ => hy P p, fun e => absurd e (by decide)⟩⟩
      · exact ⟨.inl (1, (T q).2.1), fun P p => ⟨fun e => absurd e (by omega), fun e => absurd e (by omega), fun e => absurd e (by omega), fun e => absurd e (by omega), fun e => absurd e (by omega), fun e => absurd e (by omega), fun e => absurd e (by omega), fun e => absurd e (by omega), fun e => absurd e (by omega), fun e => absurd e (by omega), fun _ => p⟩⟩
    obtain ⟨y, hy⟩ := key
    refine ⟨y, fun P p => ⟨fun i i1 _ hi => ?_, fun n => absurd c n⟩⟩
    have e : i = j := rv_rs_i i i1 j j1 (hi.trans hj.symm)
    rw [e]; exact hy P p
  · exact ⟨.inl (1, (T q).2.1), fun P p => ⟨fun i i1 a b => absurd ⟨a, fun n => n i i1 b⟩ c, fun _ => p⟩⟩
theorem dt_rows : ∀ (f : Nat) (PL WA OA : Nat → Int) (TO BI : Nat → Nat → Int) (nm : Nat → List Int) (r q : Nat), rv_Dt (fun P => sp_rows T (fun f a => P (.inl (f, a))) (fun PL WA OA TO BI nm r => P (.inr (PL, WA, OA, TO, BI, nm, r))) f PL WA OA TO BI nm r q)
  | 0, _, _, _, _, _, _, _, _ => ⟨.inl (0, 0), fun _ _ => trivial⟩
  | f + 1, PL, WA, OA, TO, BI, nm, r, q => by
    by_cases c0 : (T q).1 = 0
    · exact ⟨.inr (PL, WA, OA, TO, BI, nm, r), fun P p => ⟨fun _ => p, fun e => absurd (c0.symm.trans e) (by decide), fun n => absurd c0 n⟩⟩
    · by_cases c5 : (T q).1 = 5
      · exact ⟨.inl (1, (T q).2.1), fun P p => ⟨fun e => absurd e c0, fun _ => p, fun _ n => absurd c5 n⟩⟩
      · obtain ⟨y, hy⟩ := dt_row (T := T) (PL := PL) (WA := WA) (OA := OA) (TO := TO) (BI := BI) (nm := nm) (q := q) (K := fun PL' WA' OA' TO' BI' nm' q' P => sp_sgn T 59 (rv_x T q') (fun f a => P (.inl (f, a))) (sp_rows T (fun f a => P (.inl (f, a))) (fun PL WA OA TO BI nm r => P (.inr (PL, WA, OA, TO, BI, nm, r))) f PL' WA' OA' TO' BI' nm' (r + 1) (rv_x T (rv_x T q')))) (fun PL' WA' OA' TO' BI' nm' q' => dt_sgn (dt_rows f PL' WA' OA' TO' BI' nm' (r + 1) (rv_x T (rv_x T q'))))
        exact ⟨y, fun P p => ⟨fun e => absurd e c0, fun e => absurd e c5, fun _ _ => hy P p⟩⟩
end DT
end
section
/-! ===== the PLAINS at the loop's head ===== -/
/-- the PLAIN of cell P against numbers from o on (towns, move, fish, patience, what is told, WATER; no bids) -/
def rv_G4 (H : Nat → Int) (o : Nat) (w : Nat → Nat) (P : Nat) (M : mj_M) : Prop := H o = M.1 (w P) 4 ∧ H (o + 1) = M.1 (w P) 6 ∧ H (o + 2) = M.1 (w P) 7 ∧ H (o + 3) = M.1 (w P) 8 ∧ (∀ t v, t < 8 → v < 9 → H (o + (4 + 9 * t + v)) = M.1 (w (P + 3 + t)) v) ∧ (∀ v, v < 12 → H (o + (76 + v)) = M.1 (w (P + 20)) v)
theorem sz_ref3 {w : sx_w} {h : sx_H} {G : mj_G} {M : mj_M} {i k j : Nat} (hR : sx_RH w h G M) (hi : i < h.1) (h4 : k < 4096) (e : sx_g (sx_g h.2 i).2.2.2.2 k = some j) : M.2.2 (w.2.2.2 i) k = some (w.2.2.2 j) := by
  have r := ((hR.2.2.1 i hi).2.2 k h4).2.2
  rw [e] at r
  exact r.2
theorem sz_i3_s {w : sx_w} {h : sx_H} {G : mj_G} {M : mj_M} {i k : Nat} (hk : sz_i3 h i k = true) (hR : sx_RH w h G M) (hi : i < h.1) (h4 : k < 4096) (hb : k < sz_bd (G (w.2.2.2 i)).1 (G (w.2.2.2 i)).2) : (sz_M w h G M).1 (w.2.2.2 i) k = 3 := by
  unfold sz_i3 at hk
  rw [sx_cl_eq] at hk
  have c := ((hR.2.2.1 i hi).2.2 k h4).1
  have e : sx_g (sx_g h.2 i).2.2.1 k = .inl 3 := by
    cases e : sx_g (sx_g h.2 i).2.2.1 k with
    | inl z =>
      rw [e] at hk
      have hk : z = 3 := sx_eq_iff.mp hk
      rw [hk]
    | inr z => rw [e] at hk; cases hk
  rw [e] at c
  rw [sz_M_in hi hb]; exact (show (3 : Int) = _ from c).symm
theorem sz_lr_lt : ∀ e ∈ sz_lr, e.1 < 361 ∧ e.2.1 < 4096 := by decide +kernel
theorem sz_lt_lt : ∀ e ∈ sz_lt, e.1 < 361 := by decide +kernel
theorem sz_lz_lt : ∀ e ∈ sz_lz, e.1 < 361 ∧ e.2 < 4096 := by decide +kernel
theorem sz_head3 {w : sx_w} {h : sx_H} {G : mj_G} {M : mj_M} (hR : sx_RH w h G M) (k2 : sz_hk h = true) : lq_A (sz_G w h G) w.2.2.2 ∧ lq_B (sz_M w h G M) w.2.2.2 (w.2.2.2 26) ∧ lq_N (sz_M w h G M) w.2.2.2 30 75 ∧ rv_G4 ((sz_M w h G M).1 (w.2.2.2 338)) 0 w.2.2.2 30 (sz_M w h G M) := by
  have n1 := (sz_hk_s k2).1
  obtain ⟨ya, yb, yc, y3, y4⟩ := sz_hy_s k2
  have d1 := (sz_hx_s k2).1
  have tg : ∀ i t n, (i, t, n) ∈ sz_lt → sz_G w h G (w.2.2.2 i) = (t, n) := fun i t n he => sz_tg_s (yb (i, t, n) he) hR (by have := sz_lt_lt _ he; omega)
  have rq : ∀ i k j, (i, k, j) ∈ sz_lr → (sz_M w h G M).2.2 (w.2.2.2 i) k = some (w.2.2.2 j) := fun i k j he => sz_rq_s (ya (i, k, j) he) hR (by have := (sz_lr_lt _ he).1; omega) (sz_lr_lt _ he).2
  have zr : ∀ i k, (i, k) ∈ sz_lz → (sz_M w h G M).1 (w.2.2.2 i) k = 0 := fun i k he => sz_ik_s (yc (i, k) he) hR (by have := (sz_lz_lt _ he).1; omega) (sz_lz_lt _ he).2
  have rows : ∀ i, i < 361 → sz_G w h G (w.2.2.2 i) = (25104, 8) ∨ sz_G w h G (w.2.2.2 i) = (27104, 8) → ∀ t, t < 8 → (sz_M w h G M).2.2 (w.2.2.2 i) t = some (w.2.2.2 (i + 1 + t)) := by
    intro i hi hg t ht
    have hi2 : i < h.1 := by omega
    have e : (sx_g h.2 i).1 = 25104 ∨ (sx_g h.2 i).1 = 27104 := by
      rw [sz_G_in hi2, (hR.2.2.1 i hi2).1] at hg
      exact hg.imp (congrArg Prod.fst) (congrArg Prod.fst)
    show M.2.2 (w.2.2.2 i) t = some (w.2.2.2 (i + 1 + t))
    exact sz_ref3 hR hi2 (by omega) ((sz_d1_s (d1 i hi)).2.1 e t ht)
  have f8 : ∀ (P : Nat → Prop), (∀ t : Fin 8, P t.val) → ∀ t, t < 8 → P t := fun P hP t ht => hP ⟨t, ht⟩
  have hA : lq_A (sz_G w h G) w.2.2.2 := by
    refine ⟨fun i j hi hj e => hR.2.2.2 i j (by omega) (by omega) e, fun P hP => ?_, tg _ _ _ (by decide +kernel), tg _ _ _ (by decide +kernel), tg _ _ _ (by decide +kernel), tg _ _ _ (by decide +kernel), tg _ _ _ (by decide +kernel)⟩
    rcases lq_P4 hP with rfl | rfl | rfl | rfl
    all_goals
      refine ⟨tg _ _ _ (by decide +kernel), tg _ _ _ (by decide +kernel), tg _ _ _ (by decide +kernel), tg _ _ _ (by decide +kernel), tg _ _ _ (by decide +kernel), fun t ht => ?_, fun t ht => ?_⟩
      · exact tg _ _ _ (f8 (fun t => (_ + 3 + t, 26100, 9) ∈ sz_lt) (by decide +kernel) t ht)
      · exact tg _ _ _ (f8 (fun t => (_ + 12 + t, 28100, 12) ∈ sz_lt) (by decide +kernel) t ht)
  refine ⟨hA, ⟨fun P hP => ?_, rq _ _ _ (by decide +kernel), rq _ _ _ (by decide +kernel), rq _ _ _ (by decide +kernel), rq _ _ _ (by decide +kernel), rq _ _ _ (by decide +kernel), rq _ _ _ (by decide +kernel), rq _ _ _ (by decide +kernel)⟩, ⟨rq _ _ _ (by decide +kernel), rq _ _ _ (by decide +kernel), Or.inl ⟨rfl, rfl⟩⟩, ?_⟩
  · have h4 := lq_P4 hP
    obtain ⟨-, -, g3, g4, -⟩ := hA.2.1 P hP
    refine ⟨?_, ?_, ?_, ?_, fun t ht => rows _ (by omega) (Or.inl g3) t ht, fun t ht => rows _ (by omega) (Or.inr g4) t ht⟩
    all_goals
      rcases h4 with rfl | rfl | rfl | rfl <;> exact rq _ _ _ (by decide +kernel)
  · have b3 : (sz_M w h G M).1 (w.2.2.2 30) 8 = 3 := sz_i3_s y3 hR (by omega) (by decide) (by
      have g := tg 30 1004 0 (by decide +kernel)
      rw [sz_G_in (by omega)] at g
      rw [g]; decide)
    have s3 : (sz_M w h G M).1 (w.2.2.2 338) 3 = 3 := sz_i3_s y4 hR (by omega) (by decide) (by
      have g := sz_tg_s (sz_hk_s k2).2.2.1.2.2.2.1 hR (by omega)
      rw [sz_G_in (by omega)] at g
      rw [g]; decide)
    have zs : ∀ k, k < 88 → k ≠ 3 → (sz_M w h G M).1 (w.2.2.2 338) k = 0 := by
      intro k hk h3
      have key : ∀ k : Fin 88, k.val ≠ 3 → (338, k.val) ∈ sz_lz := by decide +kernel
      exact zr 338 k (key ⟨k, hk⟩ h3)
    have zt : ∀ t v, t < 8 → v < 9 → (sz_M w h G M).1 (w.2.2.2 (30 + 3 + t)) v = 0 := by
      intro t v ht hv
      have key : ∀ (t : Fin 8) (v : Fin 9), (30 + 3 + t.val, v.val) ∈ sz_lz := by decide +kernel
      exact zr _ _ (key ⟨t, ht⟩ ⟨v, hv⟩)
    have zw : ∀ v, v < 12 → (sz_M w h G M).1 (w.2.2.2 (30 + 20)) v = 0 := by
      intro v hv
      have key : ∀ v : Fin 12, (30 + 20, v.val) ∈ sz_lz := by decide +kernel
      exact zr _ _ (key ⟨v, hv⟩)
    refine ⟨?_, ?_, ?_, ?_, fun t v ht hv => ?_, fun v hv => ?_⟩
    · rw [zs 0 (by decide) (by decide), zr 30 4 (by decide +kernel)]
    · rw [zs 1 (by decide) (by decide), zr 30 6 (by decide +kernel)]
    · rw [zs 2 (by decide) (by decide), zr 30 7 (by decide +kernel)]
    · rw [s3, b3]
    · rw [zs _ (by omega) (by omega), zt t v ht hv]
    · rw [zs _ (by omega) (by omega), zw v hv]
end
section
/-! ===== the reference's image and restore with contents; begin and water of both sides ===== -/
theorem lc_X12_image5 {d x m tp s kp ik : Nat} {z1 : Int} {G : mj_G} {M : mj_M} {Q : mj_P} (hV : lw_V G M x m tp s kp) (hik : G ik = (72102, 2)) (h61 : M.2.2 m 61 = some ik) (hQ : ∀ z M', lw_V G M' x m tp s kp → (M'.1 tp 1 = M.1 tp 1 ∧ M'.1 m 2 = M.1 m 2) → ab_frm hn_WI G M M' → ((¬ (0 ≤ z1 ∧ z1 ≤ 1) ∧ z = 0 ∧ (∀ q, M'.1 ik q = M.1 ik q) ∧ M'.1 kp = M.1 kp) ∨ (∃ k : Nat, k ≤ 1 ∧ z1 = (k : Int) ∧ z = 1 ∧ M'.1 ik k = 1 ∧ (∀ q, q ≠ k → M'.1 ik q = M.1 ik q) ∧ (∀ p, p < 537 → M'.1 kp (538 * k + p) = M.1 s p) ∧ (∀ q, q < 538 * k ∨ 538 * k + 538 ≤ q → M'.1 kp q = M.1 kp q))) → Q (some (.inl z)) G M') : mj_R mj_tab (d + 31) 195 [.inr (.inr (some m)), .inl z1] G M Q := by
  obtain ⟨hI, ⟨g1, g2, g3, g4, g5⟩, ⟨r1, r2, r3⟩, f1, f2, f3⟩ := id hV
  refine r_image (d := d + 29) g2 g4 g5 hik r2 r3 h61 hI (fun c0 => ?_) (fun k M' ek hk i e22 f h1 h2 k1 k2 => ?_)
  · have f0 : ab_frm [(1012, 0, 0)] G M (mj_p0 M m 0 0) := hn_f0 ab_frm.rf ⟨(1012, 0, 0), by decide, by rw [g2], by decide, by decide⟩
    exact hQ 0 _ (hV.fr (hI.p0 (by rw [g2]; exact ⟨by decide, by decide⟩)) f0 (by decide)) (hV.sz f0 (by decide)) (hn_up f0 (by decide)) (Or.inl ⟨c0, rfl, fun q => hn_n (Or.inl (hn_ne hik g2 (by decide))), wz_c (hn_ne g5 g2 (by decide))⟩)
  · refine hQ 1 M' ⟨i, ⟨g1, g2, g3, g4, g5⟩, ⟨by rw [e22]; exact r1, by rw [e22]; exact r2, by rw [e22]; exact r3⟩, f1.cg (fun q _ => (f s q (by rw [g4]; exact hn_nt (by decide))).1), ?_, ?_⟩ (hV.sz f (by decide)) f (Or.inr ⟨k, hk, ek, rfl, k1, k2, h1, h2⟩)
    · by_cases e : k = 0
      · subst e
        exact f1.mv (lw_45 hI g4) (fun j hj => by have := h1 (356 + j) (by omega); rw [Nat.mul_zero, Nat.zero_add] at this; exact this)
      · exact f2.mv (lw_45k (k := 0) hI g5 (by decide)) (fun j hj => h2 (356 + j) (by omega))
    · by_cases e : k = 0
      · subst e
        exact f3.mv (lw_45k (k := 1) hI g5 (by decide)) (fun j hj => h2 (894 + j) (by omega))
      · have e1 : k = 1 := by omega
        subst e1
        exact f1.mv (lw_45 hI g4) (fun j hj => by have := h1 (356 + j) (by omega); rw [show 538 * 1 + (356 + j) = 894 + j by omega] at this; exact this)
theorem lc_X12_restore5 {d x m tp s kp ik : Nat} {z1 : Int} {G : mj_G} {M : mj_M} {Q : mj_P} (hV : lw_V G M x m tp s kp) (hik : G ik = (72102, 2)) (h61 : M.2.2 m 61 = some ik) (hQ : ∀ z M', lw_V G M' x m tp s kp → (M'.1 tp 1 = M.1 tp 1 ∧ M'.1 m 2 = M.1 m 2) → ab_frm hn_WR G M M' → (((¬ (0 ≤ z1 ∧ z1 ≤ 1) ∨ M.1 ik z1.toNat = 0) ∧ z = 0 ∧ M'.1 s = M.1 s) ∨ (∃ k : Nat, k ≤ 1 ∧ z1 = (k : Int) ∧ M.1 ik k ≠ 0 ∧ z = 1 ∧ (∀ p, p < 537 → M'.1 s p = M.1 kp (538 * k + p)))) → Q (some (.inl z)) G M') : mj_R mj_tab (d + 31) 235 [.inr (.inr (some m)), .inl z1] G M Q := by
  obtain ⟨hI, ⟨g1, g2, g3, g4, g5⟩, ⟨r1, r2, r3⟩, f1, f2, f3⟩ := id hV
  refine r_restore (d := d + 29) g2 g4 g5 hik r2 r3 h61 hI (fun c0 => ?_) (fun k M' ek hk k0 i e22 f h1 => ?_)
  · have f0 : ab_frm [(1012, 0, 0)] G M (mj_p0 M m 0 0) := hn_f0 ab_frm.rf ⟨(1012, 0, 0), by decide, by rw [g2], by decide, by decide⟩
    exact hQ 0 _ (hV.fr (hI.p0 (by rw [g2]; exact ⟨by decide, by decide⟩)) f0 (by decide)) (hV.sz f0 (by decide)) (hn_up f0 (by decide)) (Or.inl ⟨c0.imp id (fun ⟨k, e1, e2, e3⟩ => by rw [e1]; exact e3), rfl, wz_c (hn_ne g4 g2 (by decide))⟩)
  · have hF : hn_F M' s 356 := by
      by_cases e : k = 0
      · subst e
        exact f2.mv (lw_45k (k := 0) hI g5 (by decide)) (fun j hj => by have := h1 (356 + j) (by omega); rw [Nat.mul_zero, Nat.zero_add] at this; exact this)
      · have e1 : k = 1 := by omega
        subst e1
        exact f3.mv (lw_45k (k := 1) hI g5 (by decide)) (fun j hj => by have := h1 (356 + j) (by omega); rw [show 538 * 1 + (356 + j) = 894 + j by omega] at this; exact this)
    exact hQ 1 M' (hV.fs i f (by decide) hF).1 (hV.sz f (by decide)) f (Or.inr ⟨k, hk, ek, k0, rfl, h1⟩)
section BE
variable {G : mj_G} {M : mj_M} {w : Nat → Nat} {x m p q tp s kp : Nat} {z1 : Int} {Q : mj_P}
theorem r_X11_begin4 (hI : ab_Inv G M) (gx : G x = (1011, 0)) (hA : lq_A G w) (hB : lq_B M w x) (hN : lq_N M w p q) (h0 : M.1 (w p) 4 = 0 → ∀ M', Q (some (.inl 0)) G M') (h1 : M.1 (w p) 4 ≠ 0 → ∀ M', Q (some (.inl 1)) G M') : mj_R mj_tab 40 110 [.inr (.inr (some x))] G M Q := by
  obtain ⟨gp, -⟩ := hA.2.1 p hN.pin.1
  obtain ⟨ye, w3, gye⟩ := hn_rf (k := 3) (q := (1010, 0)) hI hA.2.2.1 rfl (by decide) (by decide) (by decide) (fun e => absurd e (by decide))
  refine ⟨Nat.le_of_ble_eq_true rfl, ?_⟩
  show wz 39 mt_X11_begin.2.2.2.2.1 Q mt_X11_begin.2.2.2.2.1 [some (.inr (.inr (some x)))] [] G M _ _
  refine w_aln rfl ?_
  refine w_gr gx rfl (by decide) rfl hB.2.1 ?_
  refine w_gr hA.2.2.1 rfl (by decide) rfl hN.1 ?_
  refine w_gi gp rfl (by decide) rfl rfl ?_
  refine w_ifne (fun c => ?_) (fun c => ?_)
  · refine w_aln rfl ?_
    refine w_gr gx rfl (by decide) rfl hB.2.1 ?_
    refine w_gr hA.2.2.1 rfl (by decide) rfl w3 ?_
    refine w_aln rfl ?_
    refine w_gr gx rfl (by decide) rfl hB.2.1 ?_
    refine w_gr hA.2.2.1 rfl (by decide) rfl hN.1 ?_
    refine w_cv (st := []) rfl gye rfl (Nat.le_of_ble_eq_true rfl) (fun kk h => h) (lw_cc (c := cd_9) (dd := 38) (ab_all_ok 223 (Nat.le_refl _) 11 (by decide)) rfl (by decide +kernel) gye gp (by decide) (by decide) (by decide) (by decide) (by decide) (by decide) (by decide +kernel) hI (fun M1 I1 f1 => ?_))
    refine w_ic ?_
    exact w_iret (fun _ => Or.inr rfl) (h1 c _)
  · refine w_ic ?_
    exact w_iret (fun _ => Or.inl rfl) (h0 c _)
theorem r_begins {dd : Nat} (hd : ab_h cd_61 ≤ dd) (hI : ab_Inv G M) (gm : G m = (1012, 0)) (gs : G s = (51100, 537)) (m6 : M.2.2 m 6 = some s) (hQ : ∀ M', ab_Inv G M' → ab_frm (ab_w cd_61) G M M' → Q none G M') : mj_R mj_tab (dd + 1) 163 [.inr (.inr (some m))] G M Q := by
  have b : 0 ≤ M.1 s 222 ∧ M.1 s 222 ≤ 12 := by
    have h := hI.1 s 222
    rw [gs] at h
    exact h
  refine ab_all_ok 223 (Nat.le_refl _) 68 (by decide) dd hd G M (1, hn_g [M.1 s 222], 2, lw_w2 m s) _ Q (hn_Y1 b) ⟨rfl, fun i q e => by
    cases i with
    | zero => cases e; exact Or.inr (Or.inr (Or.inr ⟨by decide, by decide, by decide, m, rfl, gm⟩))
    | succ i => cases i with
      | zero => cases e; exact Or.inr (Or.inr (Or.inr ⟨by decide, by decide, by decide, s, rfl, gs⟩))
      | succ i => cases e⟩ (fun e he => by
    cases he with
    | head => exact ⟨Nat.le_of_ble_eq_true rfl, m, 6, rfl, rfl, by decide, Nat.le_of_ble_eq_true rfl, m6⟩
    | tail _ he => cases he with
      | head => exact ⟨Nat.le_of_ble_eq_true rfl, s, 222, rfl, rfl, by decide, hn_I (Nat.le_of_ble_eq_true rfl) rfl⟩
      | tail _ he => cases he) ⟨_, _, rfl, ⟨Nat.le_of_ble_eq_true rfl, rfl⟩, rfl⟩ hI (fun r M' i f ⟨po, hpo, h⟩ => ?_)
  cases hpo with
  | head =>
    have hr : r = none := h.1
    rw [hr]; exact hQ M' i f
  | tail _ hpo => cases hpo
theorem r_X12_begin4 (hI : ab_Inv G M) (gm : G m = (1012, 0)) (gs : G s = (51100, 537)) (m6 : M.2.2 m 6 = some s) (h0 : M.1 s 0 = 0 → ∀ M', Q (some (.inl 0)) G M') (h1 : M.1 s 0 ≠ 0 → ∀ M', Q (some (.inl 1)) G M') : mj_R mj_tab 40 162 [.inr (.inr (some m))] G M Q := by
  refine ⟨Nat.le_of_ble_eq_true rfl, ?_⟩
  show wz 39 mt_X12_begin.2.2.2.2.1 Q mt_X12_begin.2.2.2.2.1 [some (.inr (.inr (some m)))] [] G M _ _
  refine w_aln rfl ?_
  refine w_ic ?_
  refine w_pi gm rfl (by decide) rfl (fun q => by cases q) ?_
  refine w_aln rfl ?_
  refine w_gr gm rfl (by decide) rfl m6 ?_
  refine w_ic ?_
  refine w_iald (v := M.1 s 0) gs rfl (by decide) (by decide) (hn_n (Or.inl (hn_ne gs gm (by decide)))) ?_
  refine w_ifne (fun c => ?_) (fun c => ?_)
  · refine w_aln rfl ?_
    refine w_cv (st := []) rfl gm rfl (Nat.le_of_ble_eq_true rfl) (fun kk h => h) (r_begins (dd := 38) (by decide +kernel) (hI.p0 (by rw [gm]; exact ⟨by decide, by decide⟩)) gm gs m6 (fun M1 I1 f1 => ?_))
    refine w_ic ?_
    exact w_iret (fun _ => Or.inr rfl) (h1 c _)
  · refine w_ic ?_
    exact w_iret (fun _ => Or.inl rfl) (h0 c _)
end BE
end
