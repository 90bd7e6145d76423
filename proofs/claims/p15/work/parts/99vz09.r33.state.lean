/-! ===== a STATE copied: its PLAIN told ===== -/
theorem lq_and {dd y : Nat} {av : List mj_V} {G : mj_G} {M : mj_M} {R R' Q : mj_P} (hk : an_ok mj_tab dd y = true) (h1 : mj_R mj_tab dd y av G M R) (h2 : mj_R mj_tab dd y av G M R') (h : ∀ r G M, R r G M → R' r G M → Q r G M) : mj_R mj_tab dd y av G M Q := mj_R_mo mj_tab dd _ _ _ _ _ _ (fun r G M q => h r G M q.1 q.2) (an_R mj_tab dd y av G M R R' hk h1 h2)
/-- an array copied whole to one of its role keeps the roles -/
theorem hn_cp {G : mj_G} {M : mj_M} {a b t n k : Nat} (hI : ab_Inv G M) (ha : G a = (t, n)) (hb : G b = (t, n)) : ab_Inv G (mj_cp0 M a b 0 0 k) := by
  refine ⟨fun x j => ?_, hI.2⟩
  by_cases e : x = b ∧ 0 ≤ j ∧ j < 0 + k
  · rw [show (mj_cp0 M a b 0 0 k).1 x j = M.1 a (0 + (j - 0)) from if_pos e, e.1, hb, Nat.zero_add, Nat.sub_zero]
    have := hI.1 a j
    rw [ha] at this
    exact this
  · rw [show (mj_cp0 M a b 0 0 k).1 x j = M.1 x j from if_neg e]; exact hI.1 x j
/-- cells of a STATE that belong to no PLAIN -/
def rv_no (t : Nat) : Prop := t ≠ 1002 ∧ t ≠ 16100 ∧ t ≠ 17100 ∧ t ≠ 18100 ∧ t ≠ 1006 ∧ t ≠ 34105 ∧ t ≠ 35100 ∧ t ≠ 36100 ∧ t ≠ 1010 ∧ t ≠ 42100 ∧ t ≠ 43100 ∧ t ≠ 44100 ∧ t ≠ 46100 ∧ t ≠ 2010 ∧ t ≠ 73100 ∧ t ≠ 74100 ∧ t ≠ 75100 ∧ t ≠ 77100
/-- a STATE copied, as far as its PLAIN goes -/
def rv_cq (G : mj_G) (pl wa pl' wa' : Nat) (tr br tr' br' : Nat → Nat) (M M' : mj_M) : Prop := (∀ k, 4 ≤ k → k ≤ 9 → M'.1 pl' k = M.1 pl k) ∧ (∀ t, t < 8 → ∀ w, w < 9 → M'.1 (tr' t) w = M.1 (tr t) w) ∧ (∀ t, t < 8 → ∀ w, w < 12 → M'.1 (br' t) w = M.1 (br t) w) ∧ (∀ w, w < 12 → M'.1 wa' w = M.1 wa w) ∧ (∀ a k, rv_no (G a).1 → M'.2.2 a k = M.2.2 a k) ∧ (∀ a, rv_no (G a).1 → a ≠ pl' → a ≠ wa' → (∀ t, t < 8 → a ≠ tr' t) → (∀ t, t < 8 → a ≠ br' t) → M'.1 a = M.1 a)
/-- a STATE copied: names, CONTRACTS -/
def rv_cr (G : mj_G) (st st' na na' : Nat) (M M' : mj_M) : Prop := (∀ s, s < 8 → M'.2.1 na' s = M.2.1 na s) ∧ (∀ a k, (G a).1 % 1000 = 103 → a ≠ na' → M'.2.1 a k = M.2.1 a k) ∧ (∀ dl dl' fa sa ca fa' sa' ca', rv_D G M dl fa sa ca → rv_D G M dl' fa' sa' ca' → M.2.2 st 1 = some dl → M.2.2 st' 1 = some dl' → (∀ j, j < 12 → M'.1 fa' j = M.1 fa j ∧ M'.1 sa' j = M.1 sa j ∧ M'.1 ca' j = M.1 ca j) ∧ M'.1 dl' 3 = M.1 dl 3 ∧ (∀ a, (G a).1 = 1002 ∨ (G a).1 = 16100 ∨ (G a).1 = 17100 ∨ (G a).1 = 18100 → a ≠ dl' → a ≠ fa' → a ≠ sa' → a ≠ ca' → M'.1 a = M.1 a))
theorem ab_k30 : an_ok mj_tab 38 32 = true := by decide +kernel
set_option maxRecDepth 100000 in
theorem r_X6_copy {G : mj_G} {M : mj_M} {pl na ta ba wa pl' na' ta' ba' wa' st st' : Nat} {tr br tr' br' : Nat → Nat} {Q : mj_P} (hI : ab_Inv G M) (gs : G st = (1007, 0)) (gs' : G st' = (1007, 0)) (s0 : M.2.2 st 0 = some pl) (s0' : M.2.2 st' 0 = some pl') (hB : rv_K G M pl na ta ba wa tr br) (hA : rv_K G M pl' na' ta' ba' wa' tr' br') (hp : rv_ap pl na wa pl' na' wa' tr br tr' br') (hQ : ∀ M', ab_Inv G M' → rv_cq G pl wa pl' wa' tr br tr' br' M M' → rv_cr G st st' na na' M M' → Q none G M') : mj_R mj_tab 39 67 [.inr (.inr (some st')), .inr (.inr (some st))] G M Q := by
  have gpl := hB.1
  have gpl' := hA.1
  obtain ⟨dl, d1, gdl⟩ := hn_rf (k := 1) (q := (1002, 0)) hI gs rfl (by decide) (by decide) (by decide) (fun e => absurd e (by decide))
  obtain ⟨dl', d1', gdl'⟩ := hn_rf (k := 1) (q := (1002, 0)) hI gs' rfl (by decide) (by decide) (by decide) (fun e => absurd e (by decide))
  obtain ⟨se, e1, gse⟩ := hn_rf (k := 2) (q := (1006, 0)) hI gs rfl (by decide) (by decide) (by decide) (fun e => absurd e (by decide))
  obtain ⟨se', e1', gse'⟩ := hn_rf (k := 2) (q := (1006, 0)) hI gs' rfl (by decide) (by decide) (by decide) (fun e => absurd e (by decide))
  obtain ⟨ye, y1, gye⟩ := hn_rf (k := 3) (q := (1010, 0)) hI gs rfl (by decide) (by decide) (by decide) (fun e => absurd e (by decide))
  obtain ⟨ye', y1', gye'⟩ := hn_rf (k := 3) (q := (1010, 0)) hI gs' rfl (by decide) (by decide) (by decide) (fun e => absurd e (by decide))
  obtain ⟨fa, f0, gfa⟩ := hn_rf (k := 0) (q := (16100, 12)) hI gdl rfl (by decide) (by decide) (by decide) (fun e => absurd e (by decide))
  obtain ⟨sa, f1, gsa⟩ := hn_rf (k := 1) (q := (17100, 12)) hI gdl rfl (by decide) (by decide) (by decide) (fun e => absurd e (by decide))
  obtain ⟨ca, f2, gca⟩ := hn_rf (k := 2) (q := (18100, 12)) hI gdl rfl (by decide) (by decide) (by decide) (fun e => absurd e (by decide))
  obtain ⟨fa', f0', gfa'⟩ := hn_rf (k := 0) (q := (16100, 12)) hI gdl' rfl (by decide) (by decide) (by decide) (fun e => absurd e (by decide))
  obtain ⟨sa', f1', gsa'⟩ := hn_rf (k := 1) (q := (17100, 12)) hI gdl' rfl (by decide) (by decide) (by decide) (fun e => absurd e (by decide))
  obtain ⟨ca', f2', gca'⟩ := hn_rf (k := 2) (q := (18100, 12)) hI gdl' rfl (by decide) (by decide) (by decide) (fun e => absurd e (by decide))
  refine ⟨Nat.le_of_ble_eq_true rfl, ?_⟩
  show wz 38 mt_X6_copy.2.2.2.2.1 Q mt_X6_copy.2.2.2.2.1 [some (.inr (.inr (some st'))), some (.inr (.inr (some st)))] [] G M _ _
  refine w_aln rfl ?_
  refine w_gr gs' rfl (by decide) rfl s0' ?_
  refine w_aln rfl ?_
  refine w_gr gs rfl (by decide) rfl s0 ?_
  refine w_cv (st := []) rfl gpl' rfl (Nat.le_of_ble_eq_true rfl) (fun kk h => h) (lq_and ab_k30 (lw_cc (c := cd_30) (dd := 37) (Q := fun r G' M' => r = none ∧ G = G' ∧ ab_Inv G M') (ab_all_ok 223 (Nat.le_refl _) 33 (by decide)) rfl (by decide +kernel) gpl' gpl (by decide) (by decide) (by decide) (by decide) (by decide) (by decide) (by decide +kernel) hI (fun M' i f => ⟨rfl, rfl, i⟩)) (r_X3_copy (d := 37) (Q := fun _ _ M' => rv_cp pl na wa pl' na' wa' tr br tr' br' M M') hB hA hp (fun M' h => h)) (fun r G' M1 h1 h2 => ?_))
  obtain ⟨rfl, rfl, I1⟩ := h1
  obtain ⟨c1, c2, c3, c4, c5, c6, c7, c8, c9⟩ := h2
  refine w_aln rfl ?_
  refine w_gr gs' rfl (by decide) rfl (by rw [c7]; exact d1') ?_
  refine w_aln rfl ?_
  refine w_gr gs rfl (by decide) rfl (by rw [c7]; exact d1) ?_
  refine w_cv (st := []) rfl gdl' rfl (Nat.le_of_ble_eq_true rfl) (fun kk h => h) ⟨Nat.le_of_ble_eq_true rfl, ?_⟩
  show wz 37 mt_X1_copy.2.2.2.2.1 _ mt_X1_copy.2.2.2.2.1 [some (.inr (.inr (some dl'))), some (.inr (.inr (some dl)))] [] _ _ _ _
  refine w_aln rfl ?_
  refine w_gr gdl rfl (by decide) rfl (by rw [c7]; exact f0) ?_
  refine w_ic ?_
  refine w_aln rfl ?_
  refine w_gr gdl' rfl (by decide) rfl (by rw [c7]; exact f0') ?_
  refine w_ic ?_
  refine w_bp ?_
  refine w_cp0 gfa rfl gfa' rfl (by decide) (by decide) (by decide) (by decide) (by decide) (by decide) (Nat.zero_le 8) ?_
  refine w_aln rfl ?_
  refine w_gr gdl rfl (by decide) rfl (by show M1.2.2 dl 1 = _; rw [c7]; exact f1) ?_
  refine w_ic ?_
  refine w_aln rfl ?_
  refine w_gr gdl' rfl (by decide) rfl (by show M1.2.2 dl' 1 = _; rw [c7]; exact f1') ?_
  refine w_ic ?_
  refine w_bp ?_
  refine w_cp0 gsa rfl gsa' rfl (by decide) (by decide) (by decide) (by decide) (by decide) (by decide) (Nat.zero_le 8) ?_
  refine w_aln rfl ?_
  refine w_gr gdl rfl (by decide) rfl (by show M1.2.2 dl 2 = _; rw [c7]; exact f2) ?_
  refine w_ic ?_
  refine w_aln rfl ?_
  refine w_gr gdl' rfl (by decide) rfl (by show M1.2.2 dl' 2 = _; rw [c7]; exact f2') ?_
  refine w_ic ?_
  refine w_bp ?_
  refine w_cp0 gca rfl gca' rfl (by decide) (by decide) (by decide) (by decide) (by decide) (by decide) (Nat.zero_le 8) ?_
  refine w_aln rfl ?_
  refine w_aln rfl ?_
  refine w_gi gdl rfl (by decide) rfl rfl ?_
  refine w_pi gdl' rfl (by decide) rfl (fun q => by cases q) ?_
  refine w_ret ?_
  have I2 : ab_Inv G (mj_cp0 (mj_cp0 (mj_cp0 M1 fa fa' 0 0 12) sa sa' 0 0 12) ca ca' 0 0 12) := hn_cp (hn_cp (hn_cp I1 gfa gfa') gsa gsa') gca gca'
  have I3 : ab_Inv G (mj_p0 (mj_cp0 (mj_cp0 (mj_cp0 M1 fa fa' 0 0 12) sa sa' 0 0 12) ca ca' 0 0 12) dl' 3 ((mj_cp0 (mj_cp0 (mj_cp0 M1 fa fa' 0 0 12) sa sa' 0 0 12) ca ca' 0 0 12).1 dl 3)) := I2.p0 (by
    have h3 := I2.1 dl 3
    rw [gdl] at h3
    rw [gdl']
    exact h3)
  have k3 : ∀ a, rv_no (G a).1 → (mj_p0 (mj_cp0 (mj_cp0 (mj_cp0 M1 fa fa' 0 0 12) sa sa' 0 0 12) ca ca' 0 0 12) dl' 3 ((mj_cp0 (mj_cp0 (mj_cp0 M1 fa fa' 0 0 12) sa sa' 0 0 12) ca ca' 0 0 12).1 dl 3)).1 a = M1.1 a := fun a hn => (wz_c (fun e => hn.1 (by rw [e, gdl']))).trans ((cp0_o (fun e => hn.2.2.2.1 (by rw [e, gca']))).trans ((cp0_o (fun e => hn.2.2.1 (by rw [e, gsa']))).trans (cp0_o (fun e => hn.2.1 (by rw [e, gfa'])))))
  generalize hM2 : mj_p0 (mj_cp0 (mj_cp0 (mj_cp0 M1 fa fa' 0 0 12) sa sa' 0 0 12) ca ca' 0 0 12) dl' 3 ((mj_cp0 (mj_cp0 (mj_cp0 M1 fa fa' 0 0 12) sa sa' 0 0 12) ca ca' 0 0 12).1 dl 3) = M2 at I3 k3
  have r2 : M2.2.2 = M.2.2 := by rw [← hM2]; exact c7
  show wz 38 mt_X6_copy.2.2.2.2.1 Q (mt_X6_copy.2.2.2.2.1.drop 10) [some (.inr (.inr (some st'))), some (.inr (.inr (some st)))] [] G (mj_p0 (mj_cp0 (mj_cp0 (mj_cp0 M1 fa fa' 0 0 12) sa sa' 0 0 12) ca ca' 0 0 12) dl' 3 ((mj_cp0 (mj_cp0 (mj_cp0 M1 fa fa' 0 0 12) sa sa' 0 0 12) ca ca' 0 0 12).1 dl 3)) _ _
  rw [hM2]
  refine w_aln rfl ?_
  refine w_gr gs' rfl (by decide) rfl (by rw [r2]; exact e1') ?_
  refine w_aln rfl ?_
  refine w_gr gs rfl (by decide) rfl (by rw [r2]; exact e1) ?_
  refine w_cv (st := []) rfl gse' rfl (Nat.le_of_ble_eq_true rfl) (fun kk h => h) (sn_ln (by decide +kernel) (lw_cc (c := cd_33) (dd := 37) (Q := fun r G' M' => r = none ∧ G' = G ∧ ab_Inv G M' ∧ ab_frm (ab_w cd_33) G M2 M') (ab_all_ok 223 (Nat.le_refl _) 36 (by decide)) rfl (by decide +kernel) gse' gse (by decide) (by decide) (by decide) (by decide) (by decide) (by decide) (by decide +kernel) I3 (fun M' i f => ⟨rfl, rfl, i, f⟩)) (fun r M3 h3 l3 => ?_))
  obtain ⟨rfl, -, I4, w3⟩ := h3
  have n3 : ∀ a k, rv_no (G a).1 ∨ (G a).1 = 1010 → M3.1 a k = M2.1 a k ∧ M3.2.2 a k = M2.2.2 a k := fun a k hn => w3 a k (fun ⟨q, hq, g, _⟩ => by
    have key : ∀ q ∈ ab_w cd_33, q.1 = 1006 ∨ q.1 = 34105 ∨ q.1 = 35100 ∨ q.1 = 36100 := by decide +kernel
    have hk := key q hq
    rw [g] at hk
    unfold rv_no at hn
    omega)
  refine w_aln rfl ?_
  refine w_gr gs' rfl (by decide) rfl (((n3 st' 3 (Or.inl (by rw [gs']; unfold rv_no; decide))).2).trans (by rw [r2]; exact y1')) ?_
  refine w_aln rfl ?_
  refine w_gr gs rfl (by decide) rfl (((n3 st 3 (Or.inl (by rw [gs]; unfold rv_no; decide))).2).trans (by rw [r2]; exact y1)) ?_
  refine w_cv (st := []) rfl gye' rfl (Nat.le_of_ble_eq_true rfl) (fun kk h => h) (sn_ln (by decide +kernel) (lw_cc (c := cd_6) (dd := 37) (Q := fun r G' M' => r = none ∧ G' = G ∧ ab_Inv G M' ∧ ab_frm (ab_w cd_6) G M3 M') (ab_all_ok 223 (Nat.le_refl _) 6 (by decide)) rfl (by decide +kernel) gye' gye (by decide) (by decide) (by decide) (by decide) (by decide) (by decide) (by decide +kernel) I4 (fun M' i f => ⟨rfl, rfl, i, f⟩)) (fun r M4 h4 l4 => ?_))
  obtain ⟨rfl, -, I5, w4⟩ := h4
  have n4 : ∀ a k, rv_no (G a).1 → M4.1 a k = M3.1 a k ∧ M4.2.2 a k = M3.2.2 a k := fun a k hn => w4 a k (fun ⟨q, hq, g, _⟩ => by
    have key : ∀ q ∈ ab_w cd_6, q.1 = 1010 ∨ q.1 = 42100 ∨ q.1 = 43100 ∨ q.1 = 44100 ∨ q.1 = 46100 := by decide +kernel
    have hk := key q hq
    rw [g] at hk
    unfold rv_no at hn
    omega)
  have no : ∀ a, rv_no (G a).1 → M4.1 a = M1.1 a := fun a hn => funext fun k => (n4 a k hn).1.trans ((n3 a k (Or.inl hn)).1.trans (congrFun (k3 a hn) k))
  have gwa' := hA.2.2.2.2.1
  have gtr' := hA.2.2.2.2.2.1
  have gbr' := hA.2.2.2.2.2.2.1
  refine w_ret (hQ M4 I5 ⟨fun k k1 k2 => ?_, fun t ht w hw => ?_, fun t ht w hw => ?_, fun w hw => ?_, fun a k hn => ?_, fun a hn a1 a2 a3 a4 => ?_⟩ ⟨fun s hs => ?_, fun a k hl hn => ?_, fun xl xl' xf xs xc xf' xs' xc' hd hd' q1 q1' => ?_⟩)
  · rw [no pl' (by rw [gpl']; unfold rv_no; decide)]; exact c1 k k1 k2
  · rw [no _ (by rw [gtr' t ht]; unfold rv_no; decide)]; exact c3 t ht w hw
  · rw [no _ (by rw [gbr' t ht]; unfold rv_no; decide)]; exact c4 t ht w hw
  · rw [no _ (by rw [gwa']; unfold rv_no; decide)]; exact c5 w hw
  · exact (n4 a k hn).2.trans ((n3 a k (Or.inl hn)).2.trans (congrFun (congrFun r2 a) k))
  · rw [no a hn]; exact c9 a a1 a2 a3 a4
  · have gna' := hA.2.1
    rw [l4 na' s (by rw [gna']; rfl), l3 na' s (by rw [gna']; rfl), ← hM2]; exact c6 s hs
  · rw [l4 a k hl, l3 a k hl, ← hM2]; exact congrFun (c8 a hn) k
  · obtain rfl : xl = dl := Option.some.inj (q1.symm.trans d1)
    obtain rfl : xl' = dl' := Option.some.inj (q1'.symm.trans d1')
    obtain ⟨-, -, -, -, i0, i1, i2⟩ := hd
    obtain ⟨-, -, -, -, i0', i1', i2'⟩ := hd'
    obtain rfl : xf = fa := Option.some.inj (i0.symm.trans f0)
    obtain rfl : xs = sa := Option.some.inj (i1.symm.trans f1)
    obtain rfl : xc = ca := Option.some.inj (i2.symm.trans f2)
    obtain rfl : xf' = fa' := Option.some.inj (i0'.symm.trans f0')
    obtain rfl : xs' = sa' := Option.some.inj (i1'.symm.trans f1')
    obtain rfl : xc' = ca' := Option.some.inj (i2'.symm.trans f2')
    have key3 : ∀ q ∈ ab_w cd_33, q.1 = 1006 ∨ q.1 = 34105 ∨ q.1 = 35100 ∨ q.1 = 36100 := by decide +kernel
    have key4 : ∀ q ∈ ab_w cd_6, q.1 = 1010 ∨ q.1 = 42100 ∨ q.1 = 43100 ∨ q.1 = 44100 ∨ q.1 = 46100 := by decide +kernel
    have n34 : ∀ a, (G a).1 = 1002 ∨ (G a).1 = 16100 ∨ (G a).1 = 17100 ∨ (G a).1 = 18100 → M4.1 a = M2.1 a := fun a ha => funext fun k => (w4 a k (fun ⟨q, hq, g, _⟩ => by have := key4 q hq; rw [g] at this; omega)).1.trans (w3 a k (fun ⟨q, hq, g, _⟩ => by have := key3 q hq; rw [g] at this; omega)).1
    have o1 : ∀ a, (G a).1 = 1002 ∨ (G a).1 = 16100 ∨ (G a).1 = 17100 ∨ (G a).1 = 18100 → M1.1 a = M.1 a := fun a ha => c9 a (fun e => by rw [e, gpl'] at ha; omega) (fun e => by rw [e, gwa'] at ha; omega) (fun t ht e => by rw [e, gtr' t ht] at ha; omega) (fun t ht e => by rw [e, gbr' t ht] at ha; omega)
    refine ⟨fun j hj => ⟨?_, ?_, ?_⟩, ?_, fun a ha n1 n2 n3 n4 => ?_⟩
    · rw [n34 _ (by rw [gfa']; decide), ← hM2, wz_c (hn_ne gfa' gdl' (by decide)), cp0_o (hn_ne gfa' gca' (by decide)), cp0_o (hn_ne gfa' gsa' (by decide)), cp0_i hj, o1 _ (by rw [gfa]; decide)]
    · rw [n34 _ (by rw [gsa']; decide), ← hM2, wz_c (hn_ne gsa' gdl' (by decide)), cp0_o (hn_ne gsa' gca' (by decide)), cp0_i hj, cp0_o (hn_ne gsa gfa' (by decide)), o1 _ (by rw [gsa]; decide)]
    · rw [n34 _ (by rw [gca']; decide), ← hM2, wz_c (hn_ne gca' gdl' (by decide)), cp0_i hj, cp0_o (hn_ne gca gsa' (by decide)), cp0_o (hn_ne gca gfa' (by decide)), o1 _ (by rw [gca]; decide)]
    · rw [n34 _ (by rw [gdl']; decide), ← hM2]
      refine hn_s.trans ?_
      rw [cp0_o (hn_ne gdl gca' (by decide)), cp0_o (hn_ne gdl gsa' (by decide)), cp0_o (hn_ne gdl gfa' (by decide)), o1 _ (by rw [gdl]; decide)]
    · rw [n34 a ha, ← hM2, wz_c n1, cp0_o n4, cp0_o n3, cp0_o n2, o1 a ha]
