/-! ===== SENTENCES copied ===== -/
theorem w_aaldo {d : Nat} {full : List mj_E} {Q : mj_P} {rest : List mj_E} {L : mj_L} {st : List mj_V} {G : mj_G} {M : mj_M} {cb sb pc : Nat} {aux : List Nat} {im : Int} {j a t n : Nat} {i : Int} {o : Option Nat} (ha : G a = (t, n)) (ht : t % 1000 = 100 + j) (h0 : 0 ≤ i) (h1 : i < n) (hv : M.2.2 a i.toNat = o) (kk : wz d full Q rest L (.inr (.inr o) :: st) G M cb sb) : wz d full Q ((.aaload, pc, j :: aux, im) :: rest) L (.inl i :: .inr (.inr (some a)) :: st) G M cb sb := wz_st ⟨t, n, ha, ht, h0, h1, fun b hb => by
  have e := hv.symm.trans hb
  rw [e] at kk; exact kk, fun hb => by
  have e := hv.symm.trans hb
  rw [e] at kk; exact kk⟩
theorem w_aasto {d : Nat} {full : List mj_E} {Q : mj_P} {rest : List mj_E} {L : mj_L} {st : List mj_V} {G : mj_G} {M : mj_M} {cb sb pc : Nat} {aux : List Nat} {im : Int} {a t n : Nat} {r : Option Nat} {i : Int} (ha : G a = (t, n)) (ht : t % 1000 = 105) (h9 : t < 900000) (h0 : 0 ≤ i) (h1 : i < n) (hr : r = none ∨ ∃ b, r = some b ∧ (G b).1 % 1000 = 50) (kk : wz d full Q rest L st G (mj_p2 M a i.toNat r) cb sb) : wz d full Q ((.aastore, pc, 5 :: aux, im) :: rest) L (.inr (.inr r) :: .inl i :: .inr (.inr (some a)) :: st) G M cb sb := wz_st ⟨t, n, ha, ht, h9, h0, h1, fun b' hb => Or.inr ⟨rfl, (G b').1, (G b').2, rfl, by
  rcases hr with e | ⟨b, e, hb2⟩
  · rw [e] at hb; cases hb
  · have e2 := Option.some.inj (e.symm.trans hb)
    rw [← e2]; exact hb2, trivial⟩, kk⟩
/-- se is told as se2 is -/
def se_cp (se st sg nu se2 st2 sg2 nu2 : Nat) (M M' : mj_M) : Prop := M'.2.1 = M.2.1 ∧ (∀ a, a ≠ se → a ≠ sg → a ≠ nu → M'.1 a = M.1 a) ∧ (∀ a, a ≠ st → M'.2.2 a = M.2.2 a) ∧ (∀ j, j < 40 → M'.2.2 st j = M.2.2 st2 j ∧ M'.1 sg j = M.1 sg2 j ∧ M'.1 nu j = M.1 nu2 j) ∧ M'.1 se 4 = M.1 se2 4 ∧ M'.1 se 5 = M.1 se2 5
section UI
variable {G : mj_G} {M M' : mj_M} {se st sg nu se2 st2 sg2 nu2 : Nat} {Q : mj_P} {d : Nat}
theorem se_cpL (hI : ab_Inv G M) (hD : se_D G M se st sg nu) (hD2 : se_D G M se2 st2 sg2 nu2) (n0 : se ≠ se2) (n1 : st ≠ st2) (n2 : sg ≠ sg2) (n3 : nu ≠ nu2) (hQ : ∀ M', se_cp se st sg nu se2 st2 sg2 nu2 M M' → Q none G M') : ∀ (k i : Nat) (M1 : mj_M) (cb sb : Nat), i + k = 40 → M1.2.1 = M.2.1 → (∀ a, a ≠ sg → a ≠ nu → M1.1 a = M.1 a) → (∀ a, a ≠ st → M1.2.2 a = M.2.2 a) → (∀ j, j < i → M1.2.2 st j = M.2.2 st2 j ∧ M1.1 sg j = M.1 sg2 j ∧ M1.1 nu j = M.1 nu2 j) → wz d mt_X5_copy.2.2.2.2.1 Q (mt_X5_copy.2.2.2.2.1.drop 2) [some (.inr (.inr (some se))), some (.inr (.inr (some se2))), some (.inl (i : Int))] [] G M1 cb sb := by
  obtain ⟨g1, g2, g3, g4, e0, e1, e2⟩ := hD
  obtain ⟨k1, k2, k3, k4, f0, f1, f2⟩ := hD2
  have a1 : se ≠ st := hn_ne g1 g2 (by decide)
  have a2 : se2 ≠ st := hn_ne k1 g2 (by decide)
  have b1 : sg ≠ nu := hn_ne g3 g4 (by decide)
  have b2 : sg2 ≠ nu := hn_ne k3 g4 (by decide)
  have b3 : nu2 ≠ sg := hn_ne k4 g3 (by decide)
  have s1 : se ≠ sg := hn_ne g1 g3 (by decide)
  have s2 : se ≠ nu := hn_ne g1 g4 (by decide)
  have s3 : se2 ≠ sg := hn_ne k1 g3 (by decide)
  have s4 : se2 ≠ nu := hn_ne k1 g4 (by decide)
  intro k
  induction k with
  | zero =>
    intro i M1 cb sb e h1 h2 h3 h4
    refine w_iln rfl ?_
    refine w_bp ?_
    refine w_cmge (fun c => ?_) (fun c => by exfalso; omega)
    refine w_aln rfl ?_
    refine w_aln rfl ?_
    refine w_gi k1 rfl (by decide) rfl (congrFun (h2 se2 s3 s4) 4) ?_
    refine w_pi g1 rfl (by decide) rfl (fun q => by cases q) ?_
    refine w_aln rfl ?_
    refine w_aln rfl ?_
    refine w_gi k1 rfl (by decide) rfl ((hn_n (Or.inl n0.symm)).trans (congrFun (h2 se2 s3 s4) 5)) ?_
    refine w_pi g1 rfl (by decide) rfl (fun q => by cases q) ?_
    exact w_ret (hQ _ ⟨h1, fun a c1 c2 c3 => (wz_c c1).trans ((wz_c c1).trans (h2 a c2 c3)), h3, fun j hj => ⟨(h4 j (by omega)).1, (congrFun (wz_c s1.symm) j).trans ((congrFun (wz_c s1.symm) j).trans (h4 j (by omega)).2.1), (congrFun (wz_c s2.symm) j).trans ((congrFun (wz_c s2.symm) j).trans (h4 j (by omega)).2.2)⟩, (hn_n (Or.inr (by decide))).trans hn_s, hn_s⟩)
  | succ k ih =>
    intro i M1 cb sb e h1 h2 h3 h4
    refine w_iln rfl ?_
    refine w_bp ?_
    refine w_cmge (fun c => by exfalso; omega) (fun c => ?_)
    refine w_aln rfl ?_
    refine w_gr g1 rfl (by decide) rfl ((congrFun (h3 se a1) 0).trans e0) ?_
    refine w_iln rfl ?_
    refine w_aln rfl ?_
    refine w_gr k1 rfl (by decide) rfl ((congrFun (h3 se2 a2) 0).trans f0) ?_
    refine w_iln rfl ?_
    refine w_aaldo (o := M.2.2 st2 i) k2 rfl (by omega) (by show (i : Int) < ((40 : Nat) : Int); omega) (by rw [Int.toNat_natCast]; exact congrFun (h3 st2 n1.symm) i) ?_
    have hr : M.2.2 st2 i = none ∨ ∃ b, M.2.2 st2 i = some b ∧ (G b).1 % 1000 = 50 := by
      have q := hI.2.1 st2 i (0, 0) (by rw [k2]; rfl) (fun _ => by rw [k2]; show i < 40; omega)
      rcases q with ⟨-, q⟩ | ⟨q, -⟩ | ⟨q, -⟩ | ⟨q, -⟩
      · exact q
      · exact absurd q (by decide)
      · exact absurd q (by decide)
      · exact absurd rfl q
    refine w_aasto g2 rfl (by decide) (by omega) (by show (i : Int) < ((40 : Nat) : Int); omega) hr ?_
    rw [Int.toNat_natCast]
    refine w_aln rfl ?_
    refine w_gr g1 rfl (by decide) rfl ((wz_nr (Or.inl a1)).trans ((congrFun (h3 se a1) 1).trans e1)) ?_
    refine w_iln rfl ?_
    refine w_aln rfl ?_
    refine w_gr k1 rfl (by decide) rfl ((wz_nr (Or.inl a2)).trans ((congrFun (h3 se2 a2) 1).trans f1)) ?_
    refine w_iln rfl ?_
    refine w_iald (v := M.1 sg2 i) k3 rfl (by omega) (by show (i : Int) < ((40 : Nat) : Int); omega) (by rw [Int.toNat_natCast]; exact congrFun (h2 sg2 n2.symm b2) i) ?_
    refine w_iast g3 rfl (by decide) (by omega) (by show (i : Int) < ((40 : Nat) : Int); omega) ?_
    rw [Int.toNat_natCast]
    refine w_aln rfl ?_
    refine w_gr g1 rfl (by decide) rfl ((wz_nr (Or.inl a1)).trans ((congrFun (h3 se a1) 2).trans e2)) ?_
    refine w_iln rfl ?_
    refine w_aln rfl ?_
    refine w_gr k1 rfl (by decide) rfl ((wz_nr (Or.inl a2)).trans ((congrFun (h3 se2 a2) 2).trans f2)) ?_
    refine w_iln rfl ?_
    refine w_iald (v := M.1 nu2 i) k4 rfl (by omega) (by show (i : Int) < ((40 : Nat) : Int); omega) (by rw [Int.toNat_natCast]; exact (congrFun (wz_c b3) i).trans (congrFun (h2 nu2 b3 n3.symm) i)) ?_
    refine w_iast g4 rfl (by decide) (by omega) (by show (i : Int) < ((40 : Nat) : Int); omega) ?_
    rw [Int.toNat_natCast]
    refine w_ii rfl ⟨by omega, by omega⟩ ?_
    refine w_goto ?_
    refine ih (i + 1) _ _ _ (by omega) h1 (fun a c1 c2 => (wz_c c2).trans ((wz_c c1).trans (h2 a c1 c2))) (fun a c1 => (funext fun k => wz_nr (Or.inl c1)).trans (h3 a c1)) (fun j hj => ?_)
    by_cases c2 : j = i
    · rw [c2]
      exact ⟨wz_sr, (congrFun (wz_c b1) i).trans hn_s, hn_s⟩
    · obtain ⟨p1, p2, p3⟩ := h4 j (by omega)
      exact ⟨(wz_nr (Or.inr c2)).trans p1, (congrFun (wz_c b1) j).trans ((hn_n (Or.inr c2)).trans p2), (hn_n (Or.inr c2)).trans ((congrFun (wz_c b1.symm) j).trans p3)⟩
theorem r_X5_copy (hI : ab_Inv G M) (hD : se_D G M se st sg nu) (hD2 : se_D G M se2 st2 sg2 nu2) (n0 : se ≠ se2) (n1 : st ≠ st2) (n2 : sg ≠ sg2) (n3 : nu ≠ nu2) (hQ : ∀ M', se_cp se st sg nu se2 st2 sg2 nu2 M M' → Q none G M') : mj_R mj_tab (d + 1) 57 [.inr (.inr (some se)), .inr (.inr (some se2))] G M Q := by
  refine ⟨Nat.le_of_ble_eq_true rfl, ?_⟩
  show wz d mt_X5_copy.2.2.2.2.1 Q mt_X5_copy.2.2.2.2.1 [some (.inr (.inr (some se))), some (.inr (.inr (some se2))), none] [] G M _ _
  refine w_ic ?_
  refine w_isn ?_
  exact se_cpL hI hD hD2 n0 n1 n2 n3 hQ 40 0 M _ _ (by decide) rfl (fun _ _ _ => rfl) (fun _ _ => rfl) (fun j hj => absurd hj (Nat.not_lt_zero j))
end UI
/-- tags of SENTENCES' cells -/
def sd_tg (t : Nat) : Prop := t = 1006 ∨ t = 34105 ∨ t = 35100 ∨ t = 36100 ∨ t = 48102
def sd_al (G : mj_G) (M M' : mj_M) : Prop := ∀ a, (sd_tg (G a).1 → M'.1 a = M.1 a) ∧ ((sd_tg (G a).1 ∨ (G a).1 = 1007 ∨ (G a).1 = 1011) → M'.2.2 a = M.2.2 a)
abbrev sd_W (W : List (Nat × Nat × Nat)) : Prop := ∀ q ∈ W, (q.1 ≠ 1006 ∧ q.1 ≠ 34105 ∧ q.1 ≠ 35100 ∧ q.1 ≠ 36100 ∧ q.1 ≠ 48102) ∧ q.1 ≠ 1007 ∧ q.1 ≠ 1011
theorem sd_al.rf {G : mj_G} {M : mj_M} : sd_al G M M := fun _ => ⟨fun _ => rfl, fun _ => rfl⟩
theorem sd_al.tr {G : mj_G} {M M1 M2 : mj_M} (h : sd_al G M M1) (h2 : sd_al G M1 M2) : sd_al G M M2 := fun a => ⟨fun g => ((h2 a).1 g).trans ((h a).1 g), fun g => ((h2 a).2 g).trans ((h a).2 g)⟩
theorem sd_al.fr {G : mj_G} {M M' : mj_M} {W : List (Nat × Nat × Nat)} (f : ab_frm W G M M') (key : sd_W W) : sd_al G M M' := fun a => ⟨fun g => funext fun k => (f a k (by
    rintro ⟨q, hq, e, -⟩
    have c := key q hq
    unfold sd_tg at g
    omega)).1, fun g => funext fun k => (f a k (by
    rintro ⟨q, hq, e, -⟩
    have c := key q hq
    unfold sd_tg at g
    omega)).2⟩
theorem sd_al.c0 {G : mj_G} {M : mj_M} {a b t n k : Nat} (g : G b = (t, n)) (h : ¬ sd_tg t) : sd_al G M (mj_cp0 M a b 0 0 k) := fun x => ⟨fun gx => cp0_o (fun e => h (by rw [e, g] at gx; exact gx)), fun _ => rfl⟩
theorem sd_al.p0 {G : mj_G} {M : mj_M} {b t n k : Nat} {v : Int} (g : G b = (t, n)) (h : ¬ sd_tg t) : sd_al G M (mj_p0 M b k v) := fun x => ⟨fun gx => wz_c (fun e => h (by rw [e, g] at gx; exact gx)), fun _ => rfl⟩
def sd_E : List Nat := [56, 101, 273, 318]
def sd_i (k : Nat) : Nat := if k = 0 then 273 else 318
theorem sd_i_in (k : Nat) : sd_i k ∈ sd_E := by unfold sd_i; split <;> decide
def lq_SA (G : mj_G) (w : Nat → Nat) : Prop := ∀ E, E ∈ sd_E → G (w E) = (1006, 0) ∧ G (w (E + 1)) = (34105, 40) ∧ G (w (E + 2)) = (35100, 40) ∧ G (w (E + 3)) = (36100, 40)
def lq_SB (M : mj_M) (w : Nat → Nat) : Prop := (∀ E, E ∈ sd_E → M.2.2 (w E) 0 = some (w (E + 1)) ∧ M.2.2 (w E) 1 = some (w (E + 2)) ∧ M.2.2 (w E) 2 = some (w (E + 3))) ∧ ∀ k, k < 2 → M.2.2 (w (lq_sk k)) 2 = some (w (sd_i k))
def lq_SN (M : mj_M) (w : Nat → Nat) (e e2 : Nat) : Prop := M.2.2 (w 29) 2 = some (w e) ∧ M.2.2 (w 74) 2 = some (w e2) ∧ ((e = 56 ∧ e2 = 101) ∨ (e = 101 ∧ e2 = 56))
/-- the SENTENCE at E is told as that at X is -/
abbrev sd_cp (w : Nat → Nat) (E X : Nat) (M M' : mj_M) : Prop := se_cp (w E) (w (E + 1)) (w (E + 2)) (w (E + 3)) (w X) (w (X + 1)) (w (X + 2)) (w (X + 3)) M M'
theorem sd_E4 {E : Nat} (h : E ∈ sd_E) : E = 56 ∨ E = 101 ∨ E = 273 ∨ E = 318 := by
  simp only [sd_E, List.mem_cons, List.not_mem_nil, or_false] at h
  exact h
theorem lq_SN.in1 {M : mj_M} {w : Nat → Nat} {e e2 : Nat} (h : lq_SN M w e e2) : e ∈ sd_E ∧ e2 ∈ sd_E ∧ e ≠ e2 ∧ (∀ k, sd_i k ≠ e) ∧ ∀ k, sd_i k ≠ e2 := by
  rcases h.2.2 with ⟨rfl, rfl⟩ | ⟨rfl, rfl⟩ <;> refine ⟨by decide, by decide, by decide, fun k => ?_, fun k => ?_⟩ <;> unfold sd_i <;> split <;> decide
theorem lq_SD {G : mj_G} {M : mj_M} {w : Nat → Nat} {E : Nat} (gA : lq_SA G w) (gB : ∀ E, E ∈ sd_E → M.2.2 (w E) 0 = some (w (E + 1)) ∧ M.2.2 (w E) 1 = some (w (E + 2)) ∧ M.2.2 (w E) 2 = some (w (E + 3))) (h : E ∈ sd_E) : se_D G M (w E) (w (E + 1)) (w (E + 2)) (w (E + 3)) := ⟨(gA E h).1, (gA E h).2.1, (gA E h).2.2.1, (gA E h).2.2.2, (gB E h).1, (gB E h).2.1, (gB E h).2.2⟩
theorem sd_w {G : mj_G} {w : Nat → Nat} (hA : lq_A G w) {E X i j : Nat} (hE : E ∈ sd_E) (hX : X ∈ sd_E) (hi : i < 4) (hj : j < 4) (h : E ≠ X ∨ i ≠ j) : w (E + i) ≠ w (X + j) := fun e => by
  have h1 := sd_E4 hE
  have h2 := sd_E4 hX
  have := hA.1 _ _ (by omega) (by omega) e
  omega
theorem r_X6_copyS {G : mj_G} {M : mj_M} {w : Nat → Nat} {st st' E X : Nat} {Q : mj_P} (hI : ab_Inv G M) (gs : G st = (1007, 0)) (gs' : G st' = (1007, 0)) (hA : lq_A G w) (gA : lq_SA G w) (rB : ∀ E, E ∈ sd_E → M.2.2 (w E) 0 = some (w (E + 1)) ∧ M.2.2 (w E) 1 = some (w (E + 2)) ∧ M.2.2 (w E) 2 = some (w (E + 3))) (hE : E ∈ sd_E) (hX : X ∈ sd_E) (nXE : E ≠ X) (e1 : M.2.2 st 2 = some (w X)) (e1' : M.2.2 st' 2 = some (w E)) (hQ : ∀ M1 M2 M3, sd_al G M M1 → sd_cp w E X M1 M2 → sd_al G M2 M3 → Q none G M3) : mj_R mj_tab 39 67 [.inr (.inr (some st')), .inr (.inr (some st))] G M Q := by
  obtain ⟨pl, s0, gpl⟩ := hn_rf (k := 0) (q := (1004, 0)) hI gs rfl (by decide) (by decide) (by decide) (fun e => absurd e (by decide))
  obtain ⟨pl', s0', gpl'⟩ := hn_rf (k := 0) (q := (1004, 0)) hI gs' rfl (by decide) (by decide) (by decide) (fun e => absurd e (by decide))
  obtain ⟨dl, d1, gdl⟩ := hn_rf (k := 1) (q := (1002, 0)) hI gs rfl (by decide) (by decide) (by decide) (fun e => absurd e (by decide))
  obtain ⟨dl', d1', gdl'⟩ := hn_rf (k := 1) (q := (1002, 0)) hI gs' rfl (by decide) (by decide) (by decide) (fun e => absurd e (by decide))
  refine ⟨Nat.le_of_ble_eq_true rfl, ?_⟩
  show wz 38 mt_X6_copy.2.2.2.2.1 Q mt_X6_copy.2.2.2.2.1 [some (.inr (.inr (some st'))), some (.inr (.inr (some st)))] [] G M _ _
  refine w_aln rfl ?_
  refine w_gr gs' rfl (by decide) rfl s0' ?_
  refine w_aln rfl ?_
  refine w_gr gs rfl (by decide) rfl s0 ?_
  refine w_cv (st := []) rfl gpl' rfl (Nat.le_of_ble_eq_true rfl) (fun kk h => h) (lw_cc (c := cd_30) (dd := 37) (ab_all_ok 223 (Nat.le_refl _) 33 (by decide)) rfl (by decide +kernel) gpl' gpl (by decide) (by decide) (by decide) (by decide) (by decide) (by decide) (by decide +kernel) hI (fun M1 I1 f1 => ?_))
  have a1 := sd_al.fr f1 (by decide +kernel)
  have r7 : ∀ {a k b : Nat}, G a = (1007, 0) → M.2.2 a k = some b → M1.2.2 a k = some b := fun g e => (congrFun ((a1 _).2 (Or.inr (Or.inl (by rw [g])))) _).trans e
  obtain ⟨fa, f0, gfa⟩ := hn_rf (k := 0) (q := (16100, 12)) I1 gdl rfl (by decide) (by decide) (by decide) (fun e => absurd e (by decide))
  obtain ⟨sa, f1, gsa⟩ := hn_rf (k := 1) (q := (17100, 12)) I1 gdl rfl (by decide) (by decide) (by decide) (fun e => absurd e (by decide))
  obtain ⟨ca, f2, gca⟩ := hn_rf (k := 2) (q := (18100, 12)) I1 gdl rfl (by decide) (by decide) (by decide) (fun e => absurd e (by decide))
  obtain ⟨fa', f0', gfa'⟩ := hn_rf (k := 0) (q := (16100, 12)) I1 gdl' rfl (by decide) (by decide) (by decide) (fun e => absurd e (by decide))
  obtain ⟨sa', f1', gsa'⟩ := hn_rf (k := 1) (q := (17100, 12)) I1 gdl' rfl (by decide) (by decide) (by decide) (fun e => absurd e (by decide))
  obtain ⟨ca', f2', gca'⟩ := hn_rf (k := 2) (q := (18100, 12)) I1 gdl' rfl (by decide) (by decide) (by decide) (fun e => absurd e (by decide))
  refine w_aln rfl ?_
  refine w_gr gs' rfl (by decide) rfl (r7 gs' d1') ?_
  refine w_aln rfl ?_
  refine w_gr gs rfl (by decide) rfl (r7 gs d1) ?_
  refine w_cv (st := []) rfl gdl' rfl (Nat.le_of_ble_eq_true rfl) (fun kk h => h) ⟨Nat.le_of_ble_eq_true rfl, ?_⟩
  show wz 37 mt_X1_copy.2.2.2.2.1 _ mt_X1_copy.2.2.2.2.1 [some (.inr (.inr (some dl'))), some (.inr (.inr (some dl)))] [] _ _ _ _
  refine w_aln rfl ?_
  refine w_gr gdl rfl (by decide) rfl f0 ?_
  refine w_ic ?_
  refine w_aln rfl ?_
  refine w_gr gdl' rfl (by decide) rfl f0' ?_
  refine w_ic ?_
  refine w_bp ?_
  refine w_cp0 gfa rfl gfa' rfl (by decide) (by decide) (by decide) (by decide) (by decide) (by decide) (Nat.zero_le 8) ?_
  refine w_aln rfl ?_
  refine w_gr gdl rfl (by decide) rfl f1 ?_
  refine w_ic ?_
  refine w_aln rfl ?_
  refine w_gr gdl' rfl (by decide) rfl f1' ?_
  refine w_ic ?_
  refine w_bp ?_
  refine w_cp0 gsa rfl gsa' rfl (by decide) (by decide) (by decide) (by decide) (by decide) (by decide) (Nat.zero_le 8) ?_
  refine w_aln rfl ?_
  refine w_gr gdl rfl (by decide) rfl f2 ?_
  refine w_ic ?_
  refine w_aln rfl ?_
  refine w_gr gdl' rfl (by decide) rfl f2' ?_
  refine w_ic ?_
  refine w_bp ?_
  refine w_cp0 gca rfl gca' rfl (by decide) (by decide) (by decide) (by decide) (by decide) (by decide) (Nat.zero_le 8) ?_
  refine w_aln rfl ?_
  refine w_aln rfl ?_
  refine w_gi gdl rfl (by decide) rfl rfl ?_
  refine w_pi gdl' rfl (by decide) rfl (fun q => by cases q) ?_
  refine w_ret ?_
  have I2 : ab_Inv G (mj_cp0 (mj_cp0 (mj_cp0 M1 fa fa' 0 0 12) sa sa' 0 0 12) ca ca' 0 0 12) := hn_cp (hn_cp (hn_cp I1 gfa gfa') gsa gsa') gca gca'
  have I3 : ab_Inv G (mj_p0 (mj_cp0 (mj_cp0 (mj_cp0 M1 fa fa' 0 0 12) sa sa' 0 0 12) ca ca' 0 0 12) dl' 3 ((mj_cp0 (mj_cp0 (mj_cp0 M1 fa fa' 0 0 12) sa sa' 0 0 12) ca ca' 0 0 12).1 dl 3)) := I2.p0 (by
    have h3 := I2.1 dl 3
    rw [gdl] at h3
    rw [gdl']
    exact h3)
  have nt : ¬ sd_tg 16100 ∧ ¬ sd_tg 17100 ∧ ¬ sd_tg 18100 ∧ ¬ sd_tg 1002 := by unfold sd_tg; decide
  have a2 : sd_al G M1 (mj_p0 (mj_cp0 (mj_cp0 (mj_cp0 M1 fa fa' 0 0 12) sa sa' 0 0 12) ca ca' 0 0 12) dl' 3 ((mj_cp0 (mj_cp0 (mj_cp0 M1 fa fa' 0 0 12) sa sa' 0 0 12) ca ca' 0 0 12).1 dl 3)) := (((sd_al.c0 gfa' nt.1).tr (sd_al.c0 gsa' nt.2.1)).tr (sd_al.c0 gca' nt.2.2.1)).tr (sd_al.p0 gdl' nt.2.2.2)
  show wz 38 mt_X6_copy.2.2.2.2.1 Q (mt_X6_copy.2.2.2.2.1.drop 10) [some (.inr (.inr (some st'))), some (.inr (.inr (some st)))] [] G (mj_p0 (mj_cp0 (mj_cp0 (mj_cp0 M1 fa fa' 0 0 12) sa sa' 0 0 12) ca ca' 0 0 12) dl' 3 ((mj_cp0 (mj_cp0 (mj_cp0 M1 fa fa' 0 0 12) sa sa' 0 0 12) ca ca' 0 0 12).1 dl 3)) _ _
  revert I3 a2
  generalize mj_p0 (mj_cp0 (mj_cp0 (mj_cp0 M1 fa fa' 0 0 12) sa sa' 0 0 12) ca ca' 0 0 12) dl' 3 ((mj_cp0 (mj_cp0 (mj_cp0 M1 fa fa' 0 0 12) sa sa' 0 0 12) ca ca' 0 0 12).1 dl 3) = M2
  intro I3 a2
  have a3 := a1.tr a2
  have r8 : ∀ {a k b : Nat}, G a = (1007, 0) → M.2.2 a k = some b → M2.2.2 a k = some b := fun g e => (congrFun ((a3 _).2 (Or.inr (Or.inl (by rw [g])))) _).trans e
  obtain ⟨ye, y1, gye⟩ := hn_rf (k := 3) (q := (1010, 0)) hI gs rfl (by decide) (by decide) (by decide) (fun e => absurd e (by decide))
  obtain ⟨ye', y1', gye'⟩ := hn_rf (k := 3) (q := (1010, 0)) hI gs' rfl (by decide) (by decide) (by decide) (fun e => absurd e (by decide))
  have r9 : ∀ {a k b : Nat}, sd_tg (G a).1 → M.2.2 a k = some b → M2.2.2 a k = some b := fun g e => (congrFun ((a3 _).2 (Or.inl g)) _).trans e
  have rB2 : ∀ E, E ∈ sd_E → M2.2.2 (w E) 0 = some (w (E + 1)) ∧ M2.2.2 (w E) 1 = some (w (E + 2)) ∧ M2.2.2 (w E) 2 = some (w (E + 3)) := fun E hE => by
    obtain ⟨b1, b2, b3⟩ := rB E hE
    have tg : sd_tg (G (w E)).1 := by rw [(gA E hE).1]; exact Or.inl rfl
    exact ⟨r9 tg b1, r9 tg b2, r9 tg b3⟩
  refine w_aln rfl ?_
  refine w_gr gs' rfl (by decide) rfl (r8 gs' e1') ?_
  refine w_aln rfl ?_
  refine w_gr gs rfl (by decide) rfl (r8 gs e1) ?_
  have gse' := (gA E hE).1
  have gse := (gA X hX).1
  refine w_cv (st := []) rfl gse' rfl (Nat.le_of_ble_eq_true rfl) (fun kk h => h) (sn_and (R := fun r G' M' => r = none ∧ G' = G ∧ ab_Inv G M' ∧ ab_frm (ab_w cd_33) G M2 M') (R' := fun r G' M' => r = none ∧ G' = G ∧ sd_cp w E X M2 M') (by decide +kernel) (lw_cc (c := cd_33) (dd := 37) (ab_all_ok 223 (Nat.le_refl _) 36 (by decide)) rfl (by decide +kernel) gse' gse (by decide) (by decide) (by decide) (by decide) (by decide) (by decide) (by decide +kernel) I3 (fun M3 I4 f4 => ⟨rfl, rfl, I4, f4⟩)) (r_X5_copy (d := 37) I3 (lq_SD gA rB2 hE) (lq_SD gA rB2 hX) (sd_w (i := 0) (j := 0) hA hE hX (by decide) (by decide) (Or.inl nXE)) (sd_w hA hE hX (by decide) (by decide) (Or.inl nXE)) (sd_w hA hE hX (by decide) (by decide) (Or.inl nXE)) (sd_w hA hE hX (by decide) (by decide) (Or.inl nXE)) (fun M3 hc => ⟨rfl, rfl, hc⟩)) (fun r G' M3 p1 p2 => ?_))
  obtain ⟨rfl, rfl, I4, f4⟩ := p1
  obtain ⟨-, -, hc⟩ := p2
  have r7' : ∀ {a k b : Nat}, G' a = (1007, 0) → M.2.2 a k = some b → M3.2.2 a k = some b := fun g e => (congrFun (hc.2.2.1 _ (hn_ne g (gA E hE).2.1 (by decide))) _).trans (r8 g e)
  refine w_aln rfl ?_
  refine w_gr gs' rfl (by decide) rfl (r7' gs' y1') ?_
  refine w_aln rfl ?_
  refine w_gr gs rfl (by decide) rfl (r7' gs y1) ?_
  refine w_cv (st := []) rfl gye' rfl (Nat.le_of_ble_eq_true rfl) (fun kk h => h) (lw_cc (c := cd_6) (dd := 37) (ab_all_ok 223 (Nat.le_refl _) 6 (by decide)) rfl (by decide +kernel) gye' gye (by decide) (by decide) (by decide) (by decide) (by decide) (by decide) (by decide +kernel) I4 (fun M4 I5 f5 => ?_))
  exact w_ret (hQ M2 M3 M4 a3 hc (sd_al.fr f5 (by decide +kernel)))
section SIM
variable {G : mj_G} {M : mj_M} {w : Nat → Nat} {x p q kc e0 e2 : Nat} {z1 : Int} {Q : mj_P}
theorem lq_imS (hA : lq_A G w) (hB : lq_B M w x) (wB : lq_SB M w) (k : Nat) (hk : k < 2) : ∃ st, M.2.2 (w 119) k = some st ∧ G st = (1007, 0) ∧ M.2.2 st 2 = some (w (sd_i k)) := by
  have h3 := wB.2 k hk
  have : k = 0 ∨ k = 1 := by omega
  rcases this with rfl | rfl
  · exact ⟨w 246, hB.2.2.2.2.1, hA.2.2.2.2.1, h3⟩
  · exact ⟨w 291, hB.2.2.2.2.2.1, hA.2.2.2.2.2.1, h3⟩
/-- image, as far as SENTENCES go -/
theorem r_X11_imageS (hI : ab_Inv G M) (gx : G x = (1011, 0)) (hA : lq_A G w) (hB : lq_B M w x) (gA : lq_SA G w) (wB : lq_SB M w) (wN : lq_SN M w e0 e2) (x4 : M.2.2 x 4 = some kc) (gkc : G kc = (48102, 2)) (h0 : ¬ (0 ≤ z1 ∧ z1 ≤ 1) → Q (some (.inl 0)) G M) (h1 : ∀ k : Nat, k < 2 → z1 = (k : Int) → ∀ M1 M2 M3, sd_al G M M1 → sd_cp w (sd_i k) e0 M1 M2 → sd_al G M2 M3 → Q (some (.inl 1)) G (mj_p0 M3 kc k 1)) : mj_R mj_tab 40 127 [.inr (.inr (some x)), .inl z1] G M Q := by
  have g119 := hA.2.2.2.2.2.2
  refine ⟨Nat.le_of_ble_eq_true rfl, ?_⟩
  show wz 39 mt_X11_image.2.2.2.2.1 Q mt_X11_image.2.2.2.2.1 [some (.inr (.inr (some x))), some (.inl z1)] [] G M _ _
  refine w_iln rfl ?_
  refine w_iflt (fun c => ?_) (fun c => ?_)
  · refine w_ic ?_
    exact w_iret (fun _ => Or.inl rfl) (h0 (by omega))
  · refine w_iln rfl ?_
    refine w_ic ?_
    refine w_cmlt (fun c2 => ?_) (fun c2 => ?_)
    · obtain ⟨k, hk, ek⟩ : ∃ k : Nat, k < 2 ∧ z1 = (k : Int) := ⟨z1.toNat, by omega, by omega⟩
      subst ek
      obtain ⟨st, s1, gst, s3⟩ := lq_imS hA hB wB k hk
      have tk : ((k : Int)).toNat = k := by omega
      refine w_aln rfl ?_
      refine w_gr gx rfl (by decide) rfl hB.2.2.2.1 ?_
      refine w_iln rfl ?_
      refine w_aald (b := st) g119 rfl (by omega) (by show (k : Int) < ((2 : Nat) : Int); omega) (by rw [tk]; exact s1) ?_
      refine w_aln rfl ?_
      refine w_gr gx rfl (by decide) rfl hB.2.1 ?_
      refine w_cv (st := []) rfl gst rfl (Nat.le_of_ble_eq_true rfl) (fun kk h => h) (r_X6_copyS hI hA.2.2.1 gst hA gA wB.1 (sd_i_in k) wN.in1.1 (wN.in1.2.2.2.1 k) wN.1 s3 (fun M1 M2 M3 al hc al2 => ?_))
      refine w_aln rfl ?_
      refine w_gr gx rfl (by decide) rfl ((congrFun ((al2 x).2 (Or.inr (Or.inr (by rw [gx])))) 4).trans ((congrFun (hc.2.2.1 x (hn_ne gx (gA _ (sd_i_in k)).2.1 (by decide))) 4).trans ((congrFun ((al x).2 (Or.inr (Or.inr (by rw [gx])))) 4).trans x4))) ?_
      refine w_iln rfl ?_
      refine w_ic ?_
      refine w_zast (Or.inr rfl) gkc rfl (by decide) (by omega) (by show (k : Int) < ((2 : Nat) : Int); omega) ?_
      refine w_ic ?_
      refine w_iret (fun _ => Or.inr rfl) ?_
      rw [tk]
      exact h1 k hk rfl M1 M2 M3 al hc al2
    · refine w_ic ?_
      exact w_iret (fun _ => Or.inl rfl) (h0 (by omega))
/-- restore, as far as SENTENCES go -/
theorem r_X11_restoreS {ud : Nat} (hI : ab_Inv G M) (gx : G x = (1011, 0)) (hA : lq_A G w) (hB : lq_B M w x) (gA : lq_SA G w) (wB : lq_SB M w) (wN : lq_SN M w e0 e2) (x4 : M.2.2 x 4 = some kc) (gkc : G kc = (48102, 2)) (x5 : M.2.2 x 5 = some ud) (gud : G ud = (1009, 0)) (h0 : (¬ (0 ≤ z1 ∧ z1 ≤ 1) ∨ ∃ k : Nat, k < 2 ∧ z1 = (k : Int) ∧ M.1 kc k = 0) → Q (some (.inl 0)) G M) (h1 : ∀ k : Nat, k < 2 → z1 = (k : Int) → M.1 kc k ≠ 0 → ∀ M1 M2 M3, sd_al G M M1 → sd_cp w e0 (sd_i k) M1 M2 → sd_al G M2 M3 → Q (some (.inl 1)) G (mj_p0 M3 ud 3 0)) : mj_R mj_tab 40 144 [.inr (.inr (some x)), .inl z1] G M Q := by
  have g119 := hA.2.2.2.2.2.2
  refine ⟨Nat.le_of_ble_eq_true rfl, ?_⟩
  show wz 39 mt_X11_restore.2.2.2.2.1 Q mt_X11_restore.2.2.2.2.1 [some (.inr (.inr (some x))), some (.inl z1)] [] G M _ _
  refine w_iln rfl ?_
  refine w_iflt (fun c => ?_) (fun c => ?_)
  · refine w_ic ?_
    exact w_iret (fun _ => Or.inl rfl) (h0 (Or.inl (by omega)))
  · refine w_iln rfl ?_
    refine w_ic ?_
    refine w_cmge (fun c2 => ?_) (fun c2 => ?_)
    · refine w_ic ?_
      exact w_iret (fun _ => Or.inl rfl) (h0 (Or.inl (by omega)))
    · obtain ⟨k, hk, ek⟩ : ∃ k : Nat, k < 2 ∧ z1 = (k : Int) := ⟨z1.toNat, by omega, by omega⟩
      subst ek
      obtain ⟨st, s1, gst, s3⟩ := lq_imS hA hB wB k hk
      have tk : ((k : Int)).toNat = k := by omega
      refine w_aln rfl ?_
      refine w_gr gx rfl (by decide) rfl x4 ?_
      refine w_iln rfl ?_
      refine w_zald (v := M.1 kc k) gkc rfl (by omega) (by show (k : Int) < ((2 : Nat) : Int); omega) (by rw [tk]) ?_
      refine w_ifne (fun c3 => ?_) (fun c3 => ?_)
      · refine w_aln rfl ?_
        refine w_gr gx rfl (by decide) rfl hB.2.1 ?_
        refine w_aln rfl ?_
        refine w_gr gx rfl (by decide) rfl hB.2.2.2.1 ?_
        refine w_iln rfl ?_
        refine w_aald (b := st) g119 rfl (by omega) (by show (k : Int) < ((2 : Nat) : Int); omega) (by rw [tk]; exact s1) ?_
        refine w_cv (st := []) rfl hA.2.2.1 rfl (Nat.le_of_ble_eq_true rfl) (fun kk h => h) (r_X6_copyS hI gst hA.2.2.1 hA gA wB.1 wN.in1.1 (sd_i_in k) (fun e => wN.in1.2.2.2.1 k e.symm) s3 wN.1 (fun M1 M2 M3 al hc al2 => ?_))
        refine w_aln rfl ?_
        refine w_gr gx rfl (by decide) rfl ((congrFun ((al2 x).2 (Or.inr (Or.inr (by rw [gx])))) 5).trans ((congrFun (hc.2.2.1 x (hn_ne gx (gA _ wN.in1.1).2.1 (by decide))) 5).trans ((congrFun ((al x).2 (Or.inr (Or.inr (by rw [gx])))) 5).trans x5))) ?_
        refine w_ic ?_
        refine w_pi gud rfl (by decide) rfl (fun q => by cases q) ?_
        refine w_ic ?_
        exact w_iret (fun _ => Or.inr rfl) (h1 k hk rfl c3 M1 M2 M3 al hc al2)
      · refine w_ic ?_
        exact w_iret (fun _ => Or.inl rfl) (h0 (Or.inr ⟨k, hk, rfl, c3⟩))
end SIM
