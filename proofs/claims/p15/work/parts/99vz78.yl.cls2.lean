/-! ===== YEARS through image and restore, begin, on (laid by a program) ===== -/
theorem ye_fr1 {G : mj_G} {M M' : mj_M} {W : List (Nat × Nat × Nat)} (f : ab_frm W G M M') (key : ∀ q ∈ W, ¬ ye_tg q.1 ∧ q.1 ≠ 1007 ∧ q.1 ≠ 1011) (a k : Nat) (hn : ye_tg (G a).1 ∨ (G a).1 = 1007 ∨ (G a).1 = 1011) : M'.1 a k = M.1 a k ∧ M'.2.2 a k = M.2.2 a k := f a k (fun ⟨q, hq, g, _⟩ => by
  have hk := key q hq
  rw [g] at hk
  exact hn.elim hk.1 (fun e => e.elim hk.2.1 hk.2.2))
theorem ye_tgD {W : List (Nat × Nat × Nat)} (h : W.all (fun q => !(Nat.beq q.1 1010 || Nat.beq q.1 42100 || Nat.beq q.1 43100 || Nat.beq q.1 44100 || Nat.beq q.1 45104 || Nat.beq q.1 46100 || Nat.beq q.1 48102 || Nat.beq q.1 1007 || Nat.beq q.1 1011)) = true) : ∀ q ∈ W, ¬ ye_tg q.1 ∧ q.1 ≠ 1007 ∧ q.1 ≠ 1011 := fun q hq => by
  have h1 := List.all_eq_true.mp h q hq
  have h2 : (Nat.beq q.1 1010 || Nat.beq q.1 42100 || Nat.beq q.1 43100 || Nat.beq q.1 44100 || Nat.beq q.1 45104 || Nat.beq q.1 46100 || Nat.beq q.1 48102 || Nat.beq q.1 1007 || Nat.beq q.1 1011) = false := by
    cases e : (Nat.beq q.1 1010 || Nat.beq q.1 42100 || Nat.beq q.1 43100 || Nat.beq q.1 44100 || Nat.beq q.1 45104 || Nat.beq q.1 46100 || Nat.beq q.1 48102 || Nat.beq q.1 1007 || Nat.beq q.1 1011) with
    | false => rfl
    | true => rw [e] at h1; cases h1
  have nb : ∀ {n : Nat}, q.1 = n → Nat.beq q.1 n = true := fun e => by rw [e]; exact Nat.beq_refl _
  have no : ∀ {a b : Bool}, (a || b) = false → a = false ∧ b = false := fun {a b} e => by cases a <;> cases b <;> first | exact ⟨rfl, rfl⟩ | cases e
  obtain ⟨h2, c9⟩ := no h2
  obtain ⟨h2, c8⟩ := no h2
  obtain ⟨h2, c7⟩ := no h2
  obtain ⟨h2, c6⟩ := no h2
  obtain ⟨h2, c5⟩ := no h2
  obtain ⟨h2, c4⟩ := no h2
  obtain ⟨h2, c3⟩ := no h2
  obtain ⟨c1, c2⟩ := no h2
  refine ⟨?_, fun e => ?_, fun e => ?_⟩
  · rintro (e | e | e | e | e | e | e)
    · rw [nb e] at c1; cases c1
    · rw [nb e] at c2; cases c2
    · rw [nb e] at c3; cases c3
    · rw [nb e] at c4; cases c4
    · rw [nb e] at c5; cases c5
    · rw [nb e] at c6; cases c6
    · rw [nb e] at c7; cases c7
  · rw [nb e] at c8; cases c8
  · rw [nb e] at c9; cases c9
/-- between two memories YEARS' cells and STATES' references are alike -/
def ye_al (G : mj_G) (M M' : mj_M) : Prop := ∀ a, (ye_tg (G a).1 → M'.1 a = M.1 a) ∧ ((ye_tg (G a).1 ∨ (G a).1 = 1007 ∨ (G a).1 = 1011) → M'.2.2 a = M.2.2 a)
theorem ye_al.rf {G : mj_G} {M : mj_M} : ye_al G M M := fun _ => ⟨fun _ => rfl, fun _ => rfl⟩
theorem ye_al.tr {G : mj_G} {M M1 M2 : mj_M} (h : ye_al G M M1) (h2 : ye_al G M1 M2) : ye_al G M M2 := fun a => ⟨fun g => ((h2 a).1 g).trans ((h a).1 g), fun g => ((h2 a).2 g).trans ((h a).2 g)⟩
theorem ye_al.fr {G : mj_G} {M M' : mj_M} {W : List (Nat × Nat × Nat)} (f : ab_frm W G M M') (key : ∀ q ∈ W, ¬ ye_tg q.1 ∧ q.1 ≠ 1007 ∧ q.1 ≠ 1011) : ye_al G M M' := fun a => ⟨fun g => funext fun k => (ye_fr1 f key a k (Or.inl g)).1, fun g => funext fun k => (ye_fr1 f key a k g).2⟩
theorem ye_al.c0 {G : mj_G} {M : mj_M} {a b t n k : Nat} (g : G b = (t, n)) (h : ¬ ye_tg t) : ye_al G M (mj_cp0 M a b 0 0 k) := fun x => ⟨fun gx => cp0_o (fun e => h (by rw [e, g] at gx; exact gx)), fun _ => rfl⟩
theorem ye_al.p0 {G : mj_G} {M : mj_M} {b t n k : Nat} {v : Int} (g : G b = (t, n)) (h : ¬ ye_tg t) : ye_al G M (mj_p0 M b k v) := fun x => ⟨fun gx => wz_c (fun e => h (by rw [e, g] at gx; exact gx)), fun _ => rfl⟩
set_option maxRecDepth 100000 in
theorem r_X6_copyY {G : mj_G} {M : mj_M} {w : Nat → Nat} {st st' Y X : Nat} {Q : mj_P} (hI : ab_Inv G M) (gs : G st = (1007, 0)) (gs' : G st' = (1007, 0)) (hA : lq_A G w) (gA : lq_WA G w) (rB : ∀ Z, Z ∈ yw_Y → M.2.2 (w Z) 3 = some (w (Z + 1)) ∧ M.2.2 (w Z) 4 = some (w (Z + 2)) ∧ M.2.2 (w Z) 5 = some (w (Z + 3)) ∧ M.2.2 (w Z) 6 = some (w (Z + 4)) ∧ ∀ t, t < 8 → M.2.2 (w (Z + 4)) t = some (w (Z + 5 + t))) (hY : Y ∈ yw_Y) (hX : X ∈ yw_Y) (nXY : X ≠ Y) (y1 : M.2.2 st 3 = some (w X)) (y1' : M.2.2 st' 3 = some (w Y)) (hQ : ∀ M1 M2, ab_Inv G M1 → ye_al G M M1 → yk_cp w Y X M1 M2 → Q none G M2) : mj_R mj_tab 39 67 [.inr (.inr (some st')), .inr (.inr (some st))] G M Q := by
  obtain ⟨pl, s0, gpl⟩ := hn_rf (k := 0) (q := (1004, 0)) hI gs rfl (by decide) (by decide) (by decide) (fun e => absurd e (by decide))
  obtain ⟨pl', s0', gpl'⟩ := hn_rf (k := 0) (q := (1004, 0)) hI gs' rfl (by decide) (by decide) (by decide) (fun e => absurd e (by decide))
  obtain ⟨dl, d1, gdl⟩ := hn_rf (k := 1) (q := (1002, 0)) hI gs rfl (by decide) (by decide) (by decide) (fun e => absurd e (by decide))
  obtain ⟨dl', d1', gdl'⟩ := hn_rf (k := 1) (q := (1002, 0)) hI gs' rfl (by decide) (by decide) (by decide) (fun e => absurd e (by decide))
  obtain ⟨se, e1, gse⟩ := hn_rf (k := 2) (q := (1006, 0)) hI gs rfl (by decide) (by decide) (by decide) (fun e => absurd e (by decide))
  obtain ⟨se', e1', gse'⟩ := hn_rf (k := 2) (q := (1006, 0)) hI gs' rfl (by decide) (by decide) (by decide) (fun e => absurd e (by decide))
  refine ⟨Nat.le_of_ble_eq_true rfl, ?_⟩
  show wz 38 mt_X6_copy.2.2.2.2.1 Q mt_X6_copy.2.2.2.2.1 [some (.inr (.inr (some st'))), some (.inr (.inr (some st)))] [] G M _ _
  refine w_aln rfl ?_
  refine w_gr gs' rfl (by decide) rfl s0' ?_
  refine w_aln rfl ?_
  refine w_gr gs rfl (by decide) rfl s0 ?_
  refine w_cv (st := []) rfl gpl' rfl (Nat.le_of_ble_eq_true rfl) (fun kk h => h) (lw_cc (c := cd_30) (dd := 37) (ab_all_ok 223 (Nat.le_refl _) 33 (by decide)) rfl (by decide +kernel) gpl' gpl (by decide) (by decide) (by decide) (by decide) (by decide) (by decide) (by decide +kernel) hI (fun M1 I1 f1 => ?_))
  have a1 := ye_al.fr f1 (ye_tgD (by decide +kernel))
  have r7 : ∀ {a k b : Nat}, G a = (1007, 0) → M.2.2 a k = some b → M1.2.2 a k = some b := fun g e => (congrFun ((a1 _).2 (Or.inr (Or.inl (by rw [g])))) _).trans e
  obtain ⟨fa, f0, gfa⟩ := hn_rf (k := 0) (q := (16100, 12)) I1 gdl rfl (by decide) (by decide) (by decide) (fun e => absurd e (by decide))
  obtain ⟨sa, f1, gsa⟩ := hn_rf (k := 1) (q := (17100, 12)) I1 gdl rfl (by decide) (by decide) (by decide) (fun e => absurd e (by decide))
  obtain ⟨ca, f2, gca⟩ := hn_rf (k := 2) (q := (18100, 12)) I1 gdl rfl (by decide) (by decide) (by decide) (fun e => absurd e (by decide))
  obtain ⟨fa', f0', gfa'⟩ := hn_rf (k := 0) (q := (16100, 12)) I1 gdl' rfl (by decide) (by decide) (by decide) (fun e => absurd e (by decide))
  obtain ⟨sa', f1', gsa'⟩ := hn_rf (k := 1) (q := (17100, 12)) I1 gdl' rfl (by decide) (by decide) (by decide) (fun e => absurd e (by decide))
  obtain ⟨ca', f2', gca'⟩ := hn_rf (k := 2) (q := (18100, 12)) I1 gdl' rfl (by decide) (by decide) (by decide) (fun e => absurd e (by decide))
  refine w_aln rfl ?_
  refine w_gr gs' rfl (by decide) rfl (r7 gs' d1') ?_
  refine w_aln rfl ?_
  refine w_gr gs rfl (by decide) rfl (r7 gs d1) ?_
  refine w_cv (st := []) rfl gdl' rfl (Nat.le_of_ble_eq_true rfl) (fun kk h => h) ⟨Nat.le_of_ble_eq_true rfl, ?_⟩
  show wz 37 mt_X1_copy.2.2.2.2.1 _ mt_X1_copy.2.2.2.2.1 [some (.inr (.inr (some dl'))), some (.inr (.inr (some dl)))] [] _ _ _ _
  refine w_aln rfl ?_
  refine w_gr gdl rfl (by decide) rfl f0 ?_
  refine w_ic ?_
  refine w_aln rfl ?_
  refine w_gr gdl' rfl (by decide) rfl f0' ?_
  refine w_ic ?_
  refine w_bp ?_
  refine w_cp0 gfa rfl gfa' rfl (by decide) (by decide) (by decide) (by decide) (by decide) (by decide) (Nat.zero_le 8) ?_
  refine w_aln rfl ?_
  refine w_gr gdl rfl (by decide) rfl f1 ?_
  refine w_ic ?_
  refine w_aln rfl ?_
  refine w_gr gdl' rfl (by decide) rfl f1' ?_
  refine w_ic ?_
  refine w_bp ?_
  refine w_cp0 gsa rfl gsa' rfl (by decide) (by decide) (by decide) (by decide) (by decide) (by decide) (Nat.zero_le 8) ?_
  refine w_aln rfl ?_
  refine w_gr gdl rfl (by decide) rfl f2 ?_
  refine w_ic ?_
  refine w_aln rfl ?_
  refine w_gr gdl' rfl (by decide) rfl f2' ?_
  refine w_ic ?_
  refine w_bp ?_
  refine w_cp0 gca rfl gca' rfl (by decide) (by decide) (by decide) (by decide) (by decide) (by decide) (Nat.zero_le 8) ?_
  refine w_aln rfl ?_
  refine w_aln rfl ?_
  refine w_gi gdl rfl (by decide) rfl rfl ?_
  refine w_pi gdl' rfl (by decide) rfl (fun q => by cases q) ?_
  refine w_ret ?_
  have I2 : ab_Inv G (mj_cp0 (mj_cp0 (mj_cp0 M1 fa fa' 0 0 12) sa sa' 0 0 12) ca ca' 0 0 12) := hn_cp (hn_cp (hn_cp I1 gfa gfa') gsa gsa') gca gca'
  have I3 : ab_Inv G (mj_p0 (mj_cp0 (mj_cp0 (mj_cp0 M1 fa fa' 0 0 12) sa sa' 0 0 12) ca ca' 0 0 12) dl' 3 ((mj_cp0 (mj_cp0 (mj_cp0 M1 fa fa' 0 0 12) sa sa' 0 0 12) ca ca' 0 0 12).1 dl 3)) := I2.p0 (by
    have h3 := I2.1 dl 3
    rw [gdl] at h3
    rw [gdl']
    exact h3)
  have nt : ¬ ye_tg 16100 ∧ ¬ ye_tg 17100 ∧ ¬ ye_tg 18100 ∧ ¬ ye_tg 1002 := by unfold ye_tg; decide
  have a2 : ye_al G M1 (mj_p0 (mj_cp0 (mj_cp0 (mj_cp0 M1 fa fa' 0 0 12) sa sa' 0 0 12) ca ca' 0 0 12) dl' 3 ((mj_cp0 (mj_cp0 (mj_cp0 M1 fa fa' 0 0 12) sa sa' 0 0 12) ca ca' 0 0 12).1 dl 3)) := (((ye_al.c0 gfa' nt.1).tr (ye_al.c0 gsa' nt.2.1)).tr (ye_al.c0 gca' nt.2.2.1)).tr (ye_al.p0 gdl' nt.2.2.2)
  show wz 38 mt_X6_copy.2.2.2.2.1 Q (mt_X6_copy.2.2.2.2.1.drop 10) [some (.inr (.inr (some st'))), some (.inr (.inr (some st)))] [] G (mj_p0 (mj_cp0 (mj_cp0 (mj_cp0 M1 fa fa' 0 0 12) sa sa' 0 0 12) ca ca' 0 0 12) dl' 3 ((mj_cp0 (mj_cp0 (mj_cp0 M1 fa fa' 0 0 12) sa sa' 0 0 12) ca ca' 0 0 12).1 dl 3)) _ _
  revert I3 a2
  generalize mj_p0 (mj_cp0 (mj_cp0 (mj_cp0 M1 fa fa' 0 0 12) sa sa' 0 0 12) ca ca' 0 0 12) dl' 3 ((mj_cp0 (mj_cp0 (mj_cp0 M1 fa fa' 0 0 12) sa sa' 0 0 12) ca ca' 0 0 12).1 dl 3) = M2
  intro I3 a2
  have a3 := a1.tr a2
  have r8 : ∀ {a k b : Nat}, G a = (1007, 0) → M.2.2 a k = some b → M2.2.2 a k = some b := fun g e => (congrFun ((a3 _).2 (Or.inr (Or.inl (by rw [g])))) _).trans e
  refine w_aln rfl ?_
  refine w_gr gs' rfl (by decide) rfl (r8 gs' e1') ?_
  refine w_aln rfl ?_
  refine w_gr gs rfl (by decide) rfl (r8 gs e1) ?_
  refine w_cv (st := []) rfl gse' rfl (Nat.le_of_ble_eq_true rfl) (fun kk h => h) (lw_cc (c := cd_33) (dd := 37) (ab_all_ok 223 (Nat.le_refl _) 36 (by decide)) rfl (by decide +kernel) gse' gse (by decide) (by decide) (by decide) (by decide) (by decide) (by decide) (by decide +kernel) I3 (fun M3 I4 f4 => ?_))
  have a4 := a3.tr (ye_al.fr f4 (ye_tgD (by decide +kernel)))
  have r9 : ∀ {a k b : Nat}, (ye_tg (G a).1 ∨ (G a).1 = 1007 ∨ (G a).1 = 1011) → M.2.2 a k = some b → M3.2.2 a k = some b := fun g e => (congrFun ((a4 _).2 g) _).trans e
  refine w_aln rfl ?_
  refine w_gr gs' rfl (by decide) rfl (r9 (Or.inr (Or.inl (by rw [gs']))) y1') ?_
  refine w_aln rfl ?_
  refine w_gr gs rfl (by decide) rfl (r9 (Or.inr (Or.inl (by rw [gs]))) y1) ?_
  have t0 : ∀ Z, Z ∈ yw_Y → ye_tg (G (w Z)).1 ∧ ye_tg (G (w (Z + 4))).1 := fun Z hZ => by
    obtain ⟨g0, -, -, -, g4, -⟩ := gA Z hZ
    rw [g0, g4]; unfold ye_tg; decide
  refine w_cv (st := []) rfl (gA Y hY).1 rfl (Nat.le_of_ble_eq_true rfl) (fun kk h => h) (r_X10_copyC (d := 37) hA gA (fun Z hZ => ?_) hY hX nXY (by
    have q := I4.1 (w X) 0
    rw [(gA X hX).1] at q
    have q2 : (0 : Int) ≤ M3.1 (w X) 0 ∧ M3.1 (w X) 0 ≤ 1 := q
    omega) (fun M4 hc => ?_))
  · obtain ⟨b1, b2, b3, b4, b5⟩ := rB Z hZ
    exact ⟨r9 (Or.inl (t0 Z hZ).1) b1, r9 (Or.inl (t0 Z hZ).1) b2, r9 (Or.inl (t0 Z hZ).1) b3, r9 (Or.inl (t0 Z hZ).1) b4, fun t ht => r9 (Or.inl (t0 Z hZ).2) (b5 t ht)⟩
  · exact w_ret (hQ M3 M4 I4 a4 hc)
section YIM
variable {G : mj_G} {M : mj_M} {w : Nat → Nat} {x p q kc : Nat} {z1 : Int} {Q : mj_P}
theorem lq_imY (hA : lq_A G w) (hB : lq_B M w x) (wB : lq_WB M w) (k : Nat) (hk : k < 2) : ∃ st, M.2.2 (w 119) k = some st ∧ G st = (1007, 0) ∧ M.2.2 st 3 = some (w (lq_yi k)) := by
  have h3 := wB.2.2 k hk
  have : k = 0 ∨ k = 1 := by omega
  rcases this with rfl | rfl
  · exact ⟨w 246, hB.2.2.2.2.1, hA.2.2.2.2.1, h3⟩
  · exact ⟨w 291, hB.2.2.2.2.2.1, hA.2.2.2.2.2.1, h3⟩
/-- image, as far as YEARS go -/
theorem r_X11_imageY (hI : ab_Inv G M) (gx : G x = (1011, 0)) (hA : lq_A G w) (hB : lq_B M w x) (gA : lq_WA G w) (wB : lq_WB M w) (x4 : M.2.2 x 4 = some kc) (gkc : G kc = (48102, 2)) (h0 : ¬ (0 ≤ z1 ∧ z1 ≤ 1) → Q (some (.inl 0)) G M) (h1 : ∀ k : Nat, k < 2 → z1 = (k : Int) → ∀ M1 M2, ye_al G M M1 → yk_cp w (lq_yi k) 61 M1 M2 → Q (some (.inl 1)) G (mj_p0 M2 kc k 1)) : mj_R mj_tab 40 127 [.inr (.inr (some x)), .inl z1] G M Q := by
  have g119 := hA.2.2.2.2.2.2
  refine ⟨Nat.le_of_ble_eq_true rfl, ?_⟩
  show wz 39 mt_X11_image.2.2.2.2.1 Q mt_X11_image.2.2.2.2.1 [some (.inr (.inr (some x))), some (.inl z1)] [] G M _ _
  refine w_iln rfl ?_
  refine w_iflt (fun c => ?_) (fun c => ?_)
  · refine w_ic ?_
    exact w_iret (fun _ => Or.inl rfl) (h0 (by omega))
  · refine w_iln rfl ?_
    refine w_ic ?_
    refine w_cmlt (fun c2 => ?_) (fun c2 => ?_)
    · obtain ⟨k, hk, ek⟩ : ∃ k : Nat, k < 2 ∧ z1 = (k : Int) := ⟨z1.toNat, by omega, by omega⟩
      subst ek
      obtain ⟨st, s1, gst, s3⟩ := lq_imY hA hB wB k hk
      have tk : ((k : Int)).toNat = k := by omega
      refine w_aln rfl ?_
      refine w_gr gx rfl (by decide) rfl hB.2.2.2.1 ?_
      refine w_iln rfl ?_
      refine w_aald (b := st) g119 rfl (by omega) (by show (k : Int) < ((2 : Nat) : Int); omega) (by rw [tk]; exact s1) ?_
      refine w_aln rfl ?_
      refine w_gr gx rfl (by decide) rfl hB.2.1 ?_
      refine w_cv (st := []) rfl gst rfl (Nat.le_of_ble_eq_true rfl) (fun kk h => h) (r_X6_copyY hI hA.2.2.1 gst hA gA wB.1 (lq_yi_in k).1 (by decide) (fun e => (lq_yi_in k).2 e.symm) wB.2.1 s3 (fun M1 M2 I1 al hc => ?_))
      refine w_aln rfl ?_
      refine w_gr gx rfl (by decide) rfl (by rw [hc.1]; exact (congrFun ((al x).2 (Or.inr (Or.inr (by rw [gx])))) 4).trans x4) ?_
      refine w_iln rfl ?_
      refine w_ic ?_
      refine w_zast (Or.inr rfl) gkc rfl (by decide) (by omega) (by show (k : Int) < ((2 : Nat) : Int); omega) ?_
      refine w_ic ?_
      refine w_iret (fun _ => Or.inr rfl) ?_
      rw [tk]
      exact h1 k hk rfl M1 M2 al hc
    · refine w_ic ?_
      exact w_iret (fun _ => Or.inl rfl) (h0 (by omega))
/-- restore, as far as YEARS go -/
theorem r_X11_restoreY {ud : Nat} (hI : ab_Inv G M) (gx : G x = (1011, 0)) (hA : lq_A G w) (hB : lq_B M w x) (gA : lq_WA G w) (wB : lq_WB M w) (x4 : M.2.2 x 4 = some kc) (gkc : G kc = (48102, 2)) (x5 : M.2.2 x 5 = some ud) (gud : G ud = (1009, 0)) (h0 : (¬ (0 ≤ z1 ∧ z1 ≤ 1) ∨ ∃ k : Nat, k < 2 ∧ z1 = (k : Int) ∧ M.1 kc k = 0) → Q (some (.inl 0)) G M) (h1 : ∀ k : Nat, k < 2 → z1 = (k : Int) → M.1 kc k ≠ 0 → ∀ M1 M2, ye_al G M M1 → yk_cp w 61 (lq_yi k) M1 M2 → Q (some (.inl 1)) G (mj_p0 M2 ud 3 0)) : mj_R mj_tab 40 144 [.inr (.inr (some x)), .inl z1] G M Q := by
  have g119 := hA.2.2.2.2.2.2
  refine ⟨Nat.le_of_ble_eq_true rfl, ?_⟩
  show wz 39 mt_X11_restore.2.2.2.2.1 Q mt_X11_restore.2.2.2.2.1 [some (.inr (.inr (some x))), some (.inl z1)] [] G M _ _
  refine w_iln rfl ?_
  refine w_iflt (fun c => ?_) (fun c => ?_)
  · refine w_ic ?_
    exact w_iret (fun _ => Or.inl rfl) (h0 (Or.inl (by omega)))
  · refine w_iln rfl ?_
    refine w_ic ?_
    refine w_cmge (fun c2 => ?_) (fun c2 => ?_)
    · refine w_ic ?_
      exact w_iret (fun _ => Or.inl rfl) (h0 (Or.inl (by omega)))
    · obtain ⟨k, hk, ek⟩ : ∃ k : Nat, k < 2 ∧ z1 = (k : Int) := ⟨z1.toNat, by omega, by omega⟩
      subst ek
      obtain ⟨st, s1, gst, s3⟩ := lq_imY hA hB wB k hk
      have tk : ((k : Int)).toNat = k := by omega
      refine w_aln rfl ?_
      refine w_gr gx rfl (by decide) rfl x4 ?_
      refine w_iln rfl ?_
      refine w_zald (v := M.1 kc k) gkc rfl (by omega) (by show (k : Int) < ((2 : Nat) : Int); omega) (by rw [tk]) ?_
      refine w_ifne (fun c3 => ?_) (fun c3 => ?_)
      · refine w_aln rfl ?_
        refine w_gr gx rfl (by decide) rfl hB.2.1 ?_
        refine w_aln rfl ?_
        refine w_gr gx rfl (by decide) rfl hB.2.2.2.1 ?_
        refine w_iln rfl ?_
        refine w_aald (b := st) g119 rfl (by omega) (by show (k : Int) < ((2 : Nat) : Int); omega) (by rw [tk]; exact s1) ?_
        refine w_cv (st := []) rfl hA.2.2.1 rfl (Nat.le_of_ble_eq_true rfl) (fun kk h => h) (r_X6_copyY hI gst hA.2.2.1 hA gA wB.1 (by decide) (lq_yi_in k).1 (lq_yi_in k).2 s3 wB.2.1 (fun M1 M2 I1 al hc => ?_))
        refine w_aln rfl ?_
        refine w_gr gx rfl (by decide) rfl (by rw [hc.1]; exact (congrFun ((al x).2 (Or.inr (Or.inr (by rw [gx])))) 5).trans x5) ?_
        refine w_ic ?_
        refine w_pi gud rfl (by decide) rfl (fun q => by cases q) ?_
        refine w_ic ?_
        exact w_iret (fun _ => Or.inr rfl) (h1 k hk rfl c3 M1 M2 al hc)
      · refine w_ic ?_
        exact w_iret (fun _ => Or.inl rfl) (h0 (Or.inr ⟨k, hk, rfl, c3⟩))
end YIM
/-- the cells of the YEAR now, as a layout -/
theorem yw_L {G : mj_G} {M : mj_M} {x s p q dn ds : Nat} {w : Nat → Nat} (hA : lq_A G w) (hB : lq_B M w x) (hN : lq_N M w p q) (hG : rv_G6 (M.1 s) 0 w p M) (gA : lq_WA G w) (wB : lq_WB M w) (dA : lq_DA G w) (dB : lq_DB M w) (hDN : lq_DN M w dn ds) (hE : rd_E M (M.1 s) 0 w dn) : yc_L G M ye_u1 (w 61) (w (61 + 1)) (w (61 + 2)) (w (61 + 3)) (w (61 + 4)) (fun t => w (61 + 5 + t)) (w p) (w (p + 2)) (w (p + 11)) (w (p + 20)) (fun t => w (p + 3 + t)) (fun t => w (p + 12 + t)) (w dn) (w (dn + 1)) (w (dn + 2)) (w (dn + 3)) (M.1 s) := by
  obtain ⟨gpl, gna, gta, gba, gwa, gtr, gbr, itr, ibr, p0, p1, p2, p3, rt, rb⟩ := lq_K hA hB hN.pin.1
  obtain ⟨g0, g1, g2, g3, g4, g5⟩ := gA 61 (by decide)
  obtain ⟨y3, y4, y5, y6, yt⟩ := wB.1 61 (by decide)
  obtain ⟨d0, d1, d2, d3⟩ := dA dn hDN.nin.1
  obtain ⟨e0, e1, e2⟩ := dB.1 dn hDN.nin.1
  obtain ⟨⟨n4, n6, n7, n8, nt, nw⟩, nb, -⟩ := id hG
  obtain ⟨hE1, -⟩ := id hE
  refine ⟨ye_u1_U, g0, g1, g2, g3, g4, g5, fun t s ht hs e => ?_, gpl, gta, gba, gwa, gtr, gbr, d0, d1, d2, d3, y3, y4, y5, y6, yt, p1, p2, p3, rt, rb, e0, e1, e2, n4.symm, ?_, ?_, ?_, fun t v ht hv => ?_, fun v hv => ?_, fun t v ht hv => ?_, fun v hv => ?_, fun v hv => ?_, fun v hv => ?_⟩
  · have q := hA.1 _ _ (by omega) (by omega) e; omega
  · have q := n6.symm; rw [Nat.zero_add] at q; exact q
  · have q := n7.symm; rw [Nat.zero_add] at q; exact q
  · have q := n8.symm; rw [Nat.zero_add] at q; exact q
  · have q := (nt t v ht hv).symm; rw [Nat.zero_add] at q; exact q
  · have q := (nw v hv).symm; rw [Nat.zero_add] at q; exact q
  · have q := (nb t v ht hv).symm; rw [Nat.zero_add] at q; exact q
  · have q := (hE1 v hv).1; rw [Nat.zero_add] at q; exact q
  · have q := (hE1 v hv).2.1; rw [Nat.zero_add] at q; exact q
  · have q := (hE1 v hv).2.2; rw [Nat.zero_add] at q; exact q
/-- the YEAR now of the class holds T (run: whether one goes on) -/
def yw_C (M : mj_M) (w : Nat → Nat) (run : Int) (T : ye_T) : Prop := M.1 (w 61) 0 = run ∧ (∀ j, 222 ≤ j → j < 232 → M.1 (w 61) (ye_f j) = T.1 j) ∧ (∀ j : Nat, j < 12 → (j : Int) < T.1 222 → M.1 (w (61 + 1)) j = T.2.1 j ∧ M.1 (w (61 + 2)) j = T.2.2.1 j ∧ M.1 (w (61 + 3)) j = T.2.2.2.1 j) ∧ (∀ t u, t < 8 → u < 11 → M.1 (w (61 + 5 + t)) u = T.2.2.2.2 t u)
/-- all else of the class is as it was -/
def yw_o (w : Nat → Nat) (M M' : mj_M) : Prop := M'.2 = M.2 ∧ ∀ a, yw_ne w 61 a → M'.1 a = M.1 a
def ye_S (S : Nat → Int) (o : Nat) : ye_T := (fun j => S (o + j), fun j => S (o + (320 + 3 * j)), fun j => S (o + (321 + 3 * j)), fun j => S (o + (322 + 3 * j)), fun t u => S (o + (232 + 11 * t + u)))
theorem yw_oS {G : mj_G} {w : Nat → Nat} {M0 M M1 : mj_M} {g A B C : Nat → Int} {R : Nat → Nat → Int} (h : yc_S (w 61) (w (61 + 1)) (w (61 + 2)) (w (61 + 3)) (fun t => w (61 + 5 + t)) M0 g A B C R M1) (e2 : M0.2 = M.2) (e1 : ∀ a, a ≠ w 61 → M0.1 a = M.1 a) : yw_o w M M1 := ⟨h.1.trans e2, fun a ha => (h.2.1 a (ha 0 (by decide)) (ha 1 (by decide)) (ha 2 (by decide)) (ha 3 (by decide)) (fun t ht => by have q := ha (5 + t) (by omega); rw [← Nat.add_assoc] at q; exact q)).trans (e1 a (ha 0 (by decide)))⟩
def lr_on (H : Nat → Int) (n : Int) : Int := if H 221 = 1 ∧ 0 ≤ n ∧ n ≤ 12 then (if n < 12 - H 222 then n else 12 - H 222) else -1
theorem r_X11_beginY {G : mj_G} {M : mj_M} {x s p q dn ds : Nat} {w : Nat → Nat} {Q : mj_P} (gx : G x = (1011, 0)) (hA : lq_A G w) (hB : lq_B M w x) (hN : lq_N M w p q) (hG : rv_G6 (M.1 s) 0 w p M) (gA : lq_WA G w) (wB : lq_WB M w) (dA : lq_DA G w) (dB : lq_DB M w) (hDN : lq_DN M w dn ds) (hE : rd_E M (M.1 s) 0 w dn) (h0 : M.1 s 0 = 0 → Q (some (.inl 0)) G M) (h1 : M.1 s 0 ≠ 0 → ∀ M1, yw_o w M M1 → yw_C M1 w 1 (ye_fr (M.1 s)) → Q (some (.inl 1)) G M1) : mj_R mj_tab 40 110 [.inr (.inr (some x))] G M Q := by
  have hL := yw_L hA hB hN hG gA wB dA dB hDN hE
  have gnw := hA.2.2.1
  refine ⟨Nat.le_of_ble_eq_true rfl, ?_⟩
  show wz 39 mt_X11_begin.2.2.2.2.1 Q mt_X11_begin.2.2.2.2.1 [some (.inr (.inr (some x)))] [] G M _ _
  refine w_aln rfl ?_
  refine w_gr gx rfl (by decide) rfl hB.2.1 ?_
  refine w_gr gnw rfl (by decide) rfl hN.1 ?_
  refine w_gi hL.gpl rfl (by decide) rfl hL.n4 ?_
  refine w_ifne (fun c => ?_) (fun c => ?_)
  · refine w_aln rfl ?_
    refine w_gr gx rfl (by decide) rfl hB.2.1 ?_
    refine w_gr gnw rfl (by decide) rfl wB.2.1 ?_
    refine w_aln rfl ?_
    refine w_gr gx rfl (by decide) rfl hB.2.1 ?_
    refine w_gr gnw rfl (by decide) rfl hN.1 ?_
    refine w_cv (st := []) rfl hL.gy rfl (Nat.le_of_ble_eq_true rfl) (fun kk h => h) (r_X10_start (d := 38) hL (fun M1 hC => ?_))
    refine w_ic ?_
    refine w_iret (fun _ => Or.inr rfl) (h1 c M1 (yw_oS (G := G) hC rfl (fun a ha => wz_c ha)) ⟨hC.2.2.1.trans hn_s, fun j j1 j2 => hC.2.2.2.1 j j1 j2, fun j hj hjm => ?_, fun t u ht hu => hC.vR ht hu⟩)
    have e0 : (ye_fr (M.1 s)).1 222 = 0 := rfl
    rw [e0] at hjm; omega
  · refine w_ic ?_
    exact w_iret (fun _ => Or.inl rfl) (h0 (by omega))
theorem r_X11_onY {G : mj_G} {M : mj_M} {x s p q dn ds : Nat} {w : Nat → Nat} {Q : mj_P} (gx : G x = (1011, 0)) (hA : lq_A G w) (hB : lq_B M w x) (hN : lq_N M w p q) (hG : rv_G6 (M.1 s) 0 w p M) (gA : lq_WA G w) (wB : lq_WB M w) (dA : lq_DA G w) (dB : lq_DB M w) (hDN : lq_DN M w dn ds) (hE : rd_E M (M.1 s) 0 w dn) {n : Int} (hH : ye_H (M.1 s)) (h221 : M.1 (w 61) 0 = M.1 s 221) (hr : M.1 s 221 = 0 ∨ M.1 s 221 = 1) (hC : M.1 s 221 = 1 → yw_C M w 1 (ye_S (M.1 s) 0) ∧ ye_okT (M.1 s) (ye_S (M.1 s) 0)) (h0 : ¬ (M.1 s 221 = 1 ∧ 0 ≤ n ∧ n ≤ 12) → Q (some (.inl (-1))) G M) (h1 : M.1 s 221 = 1 ∧ 0 ≤ n ∧ n ≤ 12 → ∀ M1, yw_o w M M1 → yw_C M1 w 1 (ye_it (M.1 s) (fun _ => 0) (ye_S (M.1 s) 0) (lr_on (M.1 s) n).toNat) → Q (some (.inl (lr_on (M.1 s) n))) G M1) : mj_R mj_tab 40 137 [.inr (.inr (some x)), .inl n] G M Q := by
  have hL := yw_L hA hB hN hG gA wB dA dB hDN hE
  have gnw := hA.2.2.1
  have no : ∀ cb sb, ¬ (M.1 s 221 = 1 ∧ 0 ≤ n ∧ n ≤ 12) → wz 39 mt_X11_on.2.2.2.2.1 Q (mt_X11_on.2.2.2.2.1.drop 10) [some (.inr (.inr (some x))), some (.inl n), none] [] G M cb sb := fun _ _ c => by
    refine w_ic ?_
    exact w_iret (fun q => by cases q) (h0 c)
  refine ⟨Nat.le_of_ble_eq_true rfl, ?_⟩
  show wz 39 mt_X11_on.2.2.2.2.1 Q mt_X11_on.2.2.2.2.1 [some (.inr (.inr (some x))), some (.inl n), none] [] G M _ _
  refine w_iln rfl ?_
  refine w_iflt (fun c => no _ _ (by omega)) (fun c => ?_)
  refine w_iln rfl ?_
  refine w_bp ?_
  refine w_cmgt (fun c2 => no _ _ (by omega)) (fun c2 => ?_)
  refine w_aln rfl ?_
  refine w_gr gx rfl (by decide) rfl hB.2.1 ?_
  refine w_gr gnw rfl (by decide) rfl wB.2.1 ?_
  refine w_gi hL.gy rfl (by decide) rfl h221 ?_
  refine w_ifne (fun c3 => ?_) (fun c3 => no _ _ (by omega))
  have h1y : M.1 s 221 = 1 := by omega
  obtain ⟨⟨q0, q1, q2, q3⟩, hk⟩ := hC h1y
  have hT : yc_T (w 61) (w (61 + 1)) (w (61 + 2)) (w (61 + 3)) (fun t => w (61 + 5 + t)) M (ye_S (M.1 s) 0) M := ⟨M.1 (w (61 + 1)), M.1 (w (61 + 2)), M.1 (w (61 + 3)), ⟨rfl, fun _ _ _ _ _ _ => rfl, rfl, q1, fun _ _ => rfl, fun _ _ => rfl, fun _ _ => rfl, q3⟩, q2⟩
  have ed : lr_on (M.1 s) n = (if n < 12 - (ye_S (M.1 s) 0).1 222 then n else 12 - (ye_S (M.1 s) 0).1 222) := by
    unfold lr_on; rw [if_pos ⟨h1y, by omega, by omega⟩]
    show _ = (if n < 12 - M.1 s (0 + 222) then n else 12 - M.1 s (0 + 222))
    rw [Nat.zero_add]
  refine w_aln rfl ?_
  refine w_gr gx rfl (by decide) rfl hB.2.1 ?_
  refine w_gr gnw rfl (by decide) rfl wB.2.1 ?_
  refine w_gi hL.gy rfl (by decide) rfl hT.m ?_
  refine w_isn ?_
  refine w_aln rfl ?_
  refine w_gr gx rfl (by decide) rfl hB.2.1 ?_
  refine w_gr gnw rfl (by decide) rfl wB.2.1 ?_
  refine w_aln rfl ?_
  refine w_gr gx rfl (by decide) rfl hB.2.1 ?_
  refine w_gr gnw rfl (by decide) rfl hN.1 ?_
  refine w_aln rfl ?_
  refine w_gr gx rfl (by decide) rfl hB.2.1 ?_
  refine w_gr gnw rfl (by decide) rfl hDN.1 ?_
  refine w_iln rfl ?_
  refine w_cv (st := []) rfl hL.gy rfl (Nat.le_of_ble_eq_true rfl) (fun kk h => h) (r_X10_goOn (d := 35) hL hT hH hk ⟨by omega, by omega⟩ ed (fun M1 hT1 => ?_))
  have k0 := hk.1
  have hd2 : 0 ≤ lr_on (M.1 s) n ∧ lr_on (M.1 s) n ≤ 12 - (ye_S (M.1 s) 0).1 222 := by rw [ed]; split <;> omega
  have e22 := (ye_it_ok hH hk (xs := fun _ => 0) (fun _ => ⟨Int.le_refl 0, by decide⟩) (lr_on (M.1 s) n).toNat (by omega)).2
  obtain ⟨A1, B1, C1, hC1, hrl⟩ := hT1
  have r2 : M1.2 = M.2 := hC1.1
  refine w_aln rfl ?_
  refine w_gr gx rfl (by decide) rfl (by rw [r2]; exact hB.2.1) ?_
  refine w_gr gnw rfl (by decide) rfl (by rw [r2]; exact wB.2.1) ?_
  refine w_gi hL.gy rfl (by decide) rfl (hC1.f (j := 222) (by decide) (by decide) rfl) ?_
  refine w_iln rfl ?_
  refine w_sub ⟨by omega, by omega⟩ ?_
  refine w_iret (fun q => by cases q) ?_
  rw [show (ye_it (M.1 s) (fun _ => 0) (ye_S (M.1 s) 0) (lr_on (M.1 s) n).toNat).1 222 - (ye_S (M.1 s) 0).1 222 = lr_on (M.1 s) n by omega]
  exact h1 ⟨h1y, by omega, by omega⟩ M1 (yw_oS (G := G) hC1 rfl (fun _ _ => rfl)) ⟨hC1.2.2.1.trans q0, hC1.2.2.2.1, fun j hj hjm => by
    obtain ⟨a, b, c⟩ := hrl j hj hjm
    exact ⟨(hC1.vA hj).trans a, (hC1.vB hj).trans b, (hC1.vC hj).trans c⟩, fun t u ht hu => hC1.vR ht hu⟩
