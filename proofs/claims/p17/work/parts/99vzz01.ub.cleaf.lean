/-! ===== the class reads a SENTENCE: leaves ===== -/
theorem w_aast {d : Nat} {full : List mj_E} {Q : mj_P} {rest : List mj_E} {L : mj_L} {st : List mj_V} {G : mj_G} {M : mj_M} {cb sb pc : Nat} {aux : List Nat} {im : Int} {a b t n x y : Nat} {i : Int} (ha : G a = (t, n)) (ht : t % 1000 = 105) (h9 : t < 900000) (h0 : 0 ≤ i) (h1 : i < n) (gb : G b = (x, y)) (hx : x % 1000 = 50) (kk : wz d full Q rest L st G (mj_p2 M a i.toNat (some b)) cb sb) : wz d full Q ((.aastore, pc, 5 :: aux, im) :: rest) L (.inr (.inr (some b)) :: .inl i :: .inr (.inr (some a)) :: st) G M cb sb := wz_st ⟨t, n, ha, ht, h9, h0, h1, fun b' hb => Or.inr ⟨rfl, x, y, by cases hb; exact gb, hx, trivial⟩, kk⟩
/-- the cells of a SENTENCE -/
def se_D (G : mj_G) (M : mj_M) (se st sg nu : Nat) : Prop := G se = (1006, 0) ∧ G st = (34105, 40) ∧ G sg = (35100, 40) ∧ G nu = (36100, 40) ∧ M.2.2 se 0 = some st ∧ M.2.2 se 1 = some sg ∧ M.2.2 se 2 = some nu
/-- the codes cs and o ONES are told there -/
def se_R (G : mj_G) (M : mj_M) (se st sg nu : Nat) (cs : (List (Nat × Int × Int))) (o : Nat) : Prop := M.1 se 4 = (cs.length : Int) ∧ M.1 se 5 = (o : Int) ∧ ∀ j, j < cs.length → (∃ a, M.2.2 st j = some a ∧ G a = (900050 + 1000 * (cs.getD j (0, 0, 0)).1, 0)) ∧ M.1 sg j = (cs.getD j (0, 0, 0)).2.1 ∧ M.1 nu j = (cs.getD j (0, 0, 0)).2.2
def se_o (se st sg nu : Nat) (M0 M : mj_M) : Prop := (∀ a, a ≠ se → a ≠ sg → a ≠ nu → M.1 a = M0.1 a) ∧ M.2.1 = M0.2.1 ∧ ∀ a, a ≠ st → M.2.2 a = M0.2.2 a
theorem se_o.refl {se st sg nu : Nat} {M0 : mj_M} : se_o se st sg nu M0 M0 := ⟨fun _ _ _ _ => rfl, rfl, fun _ _ => rfl⟩
theorem se_o.trans {se st sg nu : Nat} {M0 M1 M2 : mj_M} (h1 : se_o se st sg nu M0 M1) (h2 : se_o se st sg nu M1 M2) : se_o se st sg nu M0 M2 := ⟨fun a b1 b2 b3 => (h2.1 a b1 b2 b3).trans (h1.1 a b1 b2 b3), h2.2.1.trans h1.2.1, fun a b => (h2.2.2 a b).trans (h1.2.2 a b)⟩
theorem se_gl {cs : (List (Nat × Int × Int))} {c x : Nat × Int × Int} {j : Nat} (h : j < cs.length) : (cs ++ [c]).getD j x = cs.getD j x := by
  rw [List.getD_eq_getElem?_getD, List.getD_eq_getElem?_getD, List.getElem?_append_left h]
theorem se_gr {cs : (List (Nat × Int × Int))} {c x : Nat × Int × Int} : (cs ++ [c]).getD cs.length x = c := by
  rw [List.getD_eq_getElem?_getD, List.getElem?_append_right (Nat.le_refl _), Nat.sub_self]; rfl
theorem se_len {cs : (List (Nat × Int × Int))} {c : Nat × Int × Int} : (cs ++ [c]).length = cs.length + 1 := by rw [List.length_append]; rfl
theorem se_eq {G : mj_G} {w a j k : Nat} (hI : ∀ a b, (G a).1 % 1000 = 50 → G a = G b → a = b) (gw : G w = (900050 + 1000 * j, 0)) (ga : G a = (900050 + 1000 * k, 0)) : (some w = some a → j = k) ∧ (j = k → some w = some a) := by
  constructor
  · intro e
    have e := Option.some.inj e
    subst e
    have := (Prod.mk.inj (gw.symm.trans ga)).1
    omega
  · intro e
    subst e
    exact congrArg some (hI w a (by rw [gw]; show (900050 + 1000 * j) % 1000 = 50; omega) (gw.trans ga.symm))
section UB
variable {G : mj_G} {M0 M : mj_M} {B : Nat → Int} {n tp bc pl na ta ba wa oa : Nat} {tr br : Nat → Nat} {T : Nat → (Nat × Nat × Int × List Int × Nat)} {PL WA OA : Nat → Int} {TO BI : Nat → Nat → Int} {nm : Nat → List Int} {Q : mj_P} {d q : Nat} {se st sg nu : Nat} {cs : (List (Nat × Int × Int))} {o j w : Nat} {z v c : Int} {t : (Nat × Nat × Int × List Int × Nat)}
theorem se_D.so {M1 : mj_M} (hD : se_D G M0 se st sg nu) (h : se_o se st sg nu M0 M1) : se_D G M1 se st sg nu := by
  obtain ⟨g1, g2, g3, g4, e0, e1, e2⟩ := hD
  have n1 : se ≠ st := hn_ne g1 g2 (by decide)
  exact ⟨g1, g2, g3, g4, by rw [h.2.2 se n1]; exact e0, by rw [h.2.2 se n1]; exact e1, by rw [h.2.2 se n1]; exact e2⟩
theorem rv_AT.so {M1 : mj_M} (hA : rv_AT G M0 B n 200 tp bc pl na ta ba wa oa tr br T) (hD : se_D G M0 se st sg nu) (h : se_o se st sg nu M0 M1) : rv_AT G M1 B n 200 tp bc pl na ta ba wa oa tr br T := by
  obtain ⟨⟨gtp, gbc, gpl, gna, gta, gba, gwa, goa, gtr, gbr, itr, ibr, r1, r2, r3, r4, r5, r6, r7, r8, rb, rw0, n1, n2, hIw⟩, hT⟩ := id hA
  obtain ⟨g1, g2, g3, g4, e0, e1, e2⟩ := hD
  refine ⟨⟨gtp, gbc, gpl, gna, gta, gba, gwa, goa, gtr, gbr, itr, ibr, ?_, ?_, ?_, ?_, ?_, ?_, fun t ht => ?_, fun t ht => ?_, fun k => by rw [h.1 bc (hn_ne gbc g1 (by decide)) (hn_ne gbc g3 (by decide)) (hn_ne gbc g4 (by decide))]; exact rb k, fun a ha k hk => ?_, n1, n2, hIw⟩, hT⟩
  · rw [h.2.2 tp (hn_ne gtp g2 (by decide))]; exact r1
  · rw [h.2.2 pl (hn_ne gpl g2 (by decide))]; exact r2
  · rw [h.2.2 pl (hn_ne gpl g2 (by decide))]; exact r3
  · rw [h.2.2 pl (hn_ne gpl g2 (by decide))]; exact r4
  · rw [h.2.2 pl (hn_ne gpl g2 (by decide))]; exact r5
  · rw [h.2.2 pl (hn_ne gpl g2 (by decide))]; exact r6
  · rw [h.2.2 ta (hn_ne gta g2 (by decide))]; exact r7 t ht
  · rw [h.2.2 ba (hn_ne gba g2 (by decide))]; exact r8 t ht
  · rw [h.2.2 a (hn_ne ha g2 (by decide))]; exact rw0 a ha k hk
theorem rv_S.put2 {a j x y : Nat} {b : Option Nat} (hA : rv_AT G M0 B n 200 tp bc pl na ta ba wa oa tr br T) (hS : rv_S G M0 n 200 tp pl na wa oa tr br t PL WA OA TO BI nm M) (g : G a = (x, y)) (hx : x ≠ 1008) : rv_S G (mj_p2 M0 a j b) n 200 tp pl na wa oa tr br t PL WA OA TO BI nm (mj_p2 M a j b) := by
  have gtp := hA.1.1
  have n1 : a ≠ tp := hn_ne g gtp hx
  obtain ⟨h1, h4, h5, h6, h7, h8, h9, h10, f1, f2, f3⟩ := hS
  refine ⟨h1, h4.cg rfl rfl (funext fun k => wz_nr (Or.inl n1.symm)), h5, h6, h7, h8, h9, h10, f1, f2, fun c k hk => ?_⟩
  by_cases e : c = a ∧ k = j
  · rw [e.1, e.2]; exact wz_sr.trans wz_sr.symm
  · have ne : c ≠ a ∨ k ≠ j := by
      by_cases e1 : c = a
      · exact Or.inr (fun e2 => e ⟨e1, e2⟩)
      · exact Or.inl e1
    exact (wz_nr ne).trans ((f3 c k hk).trans (wz_nr ne).symm)
/-- the word of the token now -/
theorem se_wd (hA : rv_AT G M0 B n 200 tp bc pl na ta ba wa oa tr br T) (hS : rv_S G M0 n 200 tp pl na wa oa tr br (T q) PL WA OA TO BI nm M) (hq : q ≤ n) : (∃ w, M.2.2 tp 9 = some w ∧ se_j (T q) < 24 ∧ G w = (900050 + 1000 * se_j (T q), 0)) ∨ (se_j (T q) = 24 ∧ M.2.2 tp 9 = none) := by
  obtain ⟨k4, k5, k11, k6, k7, k8, k9⟩ := id hS.2.1
  by_cases c : (T q).1 = 1
  · rcases (k8 c).2 with ⟨j, w, j1, j2, gw, e9⟩ | ⟨j1, e9⟩
    · have e := se_j_of c j1 (rv_5i (rv_rs_o j j1) (rv_x_wo hA hq c) ((rv_rs_5 j j1).trans j2))
      exact Or.inl ⟨w, e9, by omega, by rw [e]; exact gw⟩
    · refine Or.inr ⟨?_, e9⟩
      have l := se_j_le (T q)
      rcases Nat.lt_or_ge (se_j (T q)) 24 with h | h
      · exfalso
        have e := (se_j_lt h).2
        exact j1 _ h ((rv_rs_5 _ h).symm.trans (by rw [e]))
      · omega
  · exact Or.inr ⟨by unfold se_j; rw [if_neg c], k9 c⟩
theorem r_X7_isSign (hA : rv_AT G M0 B n 200 tp bc pl na ta ba wa oa tr br T) (hS : rv_S G M0 n 200 tp pl na wa oa tr br (T q) PL WA OA TO BI nm M) (h1 : se_s (T q) c → Q (some (.inl 1)) G M) (h0 : ¬ se_s (T q) c → Q (some (.inl 0)) G M) : mj_R mj_tab (d + 1) 75 [.inr (.inr (some tp)), .inl c] G M Q := by
  have gtp := hA.1.1
  obtain ⟨k4, k5, k11, k6, k7, k8, k9⟩ := id hS.2.1
  have out : ¬ se_s (T q) c → ∀ cb sb, wz d mt_X7_isSign.2.2.2.2.1 Q (mt_X7_isSign.2.2.2.2.1.drop 10) [some (.inr (.inr (some tp))), some (.inl c)] [] G M cb sb := fun e cb sb => by
    refine w_ic ?_
    exact w_iret (fun _ => Or.inl rfl) (h0 e)
  refine ⟨Nat.le_of_ble_eq_true rfl, ?_⟩
  show wz d mt_X7_isSign.2.2.2.2.1 Q mt_X7_isSign.2.2.2.2.1 [some (.inr (.inr (some tp))), some (.inl c)] [] G M _ _
  refine w_aln rfl ?_
  refine w_gi gtp rfl (by decide) rfl rfl ?_
  refine w_ic ?_
  refine w_cmne (fun e => out (fun g => by have := g.1; omega) _ _) (fun e => ?_)
  have k3 : (T q).1 = 3 := by omega
  refine w_aln rfl ?_
  refine w_gi gtp rfl (by decide) rfl (k7 k3) ?_
  refine w_iln rfl ?_
  refine w_cmne (fun e => out (fun g => e g.2) _ _) (fun e => ?_)
  refine w_ic ?_
  refine w_goto ?_
  exact w_iret (fun _ => Or.inr rfl) (h1 ⟨k3, e⟩)
theorem r_X7_fin (hA : rv_AT G M0 B n 200 tp bc pl na ta ba wa oa tr br T) (hS : rv_S G M0 n 200 tp pl na wa oa tr br (T q) PL WA OA TO BI nm M) (h0 : (T q).1 = 0 → Q (some (.inl 1)) G M) (h5 : ¬ (T q).1 = 0 → ∀ M', rv_F tp pl na wa oa tr br M0 1 (T q).2.1 M' → Q (some (.inl 0)) G M') : mj_R mj_tab (d + 2) 70 [.inr (.inr (some tp))] G M Q := by
  by_cases hc : (T q).1 = 0 ∨ (T q).1 = 5
  · exact r_X7_finish hA hS h0 (fun e => h5 (by omega)) hc
  · have gtp := hA.1.1
    obtain ⟨k4, k5, k11, k6, k7, k8, k9⟩ := id hS.2.1
    refine ⟨Nat.le_of_ble_eq_true rfl, ?_⟩
    show wz (d + 1) mt_X7_finish.2.2.2.2.1 Q mt_X7_finish.2.2.2.2.1 [some (.inr (.inr (some tp)))] [] G M _ _
    refine w_aln rfl ?_
    refine w_gi gtp rfl (by decide) rfl rfl ?_
    refine w_ifne (fun c => ?_) (fun c => by exfalso; omega)
    refine w_aln rfl ?_
    refine w_ic ?_
    refine w_cv (st := []) rfl gtp rfl (Nat.le_of_ble_eq_true rfl) (fun kk h => h) (r_X7_refuse (d := d) hA hS (by decide) (fun M' F => ?_))
    refine w_ifeq (fun c => ?_) (fun c => absurd rfl c)
    refine w_ic ?_
    exact w_iret (fun _ => Or.inl rfl) (h5 (by omega) M' F)
theorem r_X5_add (hA : rv_AT G M0 B n 200 tp bc pl na ta ba wa oa tr br T) (hS : rv_S G M0 n 200 tp pl na wa oa tr br t PL WA OA TO BI nm M) (hD : se_D G M0 se st sg nu) (hR : se_R G M0 se st sg nu cs o) (hl : cs.length < 40) (gw : G w = (900050 + 1000 * j, 0)) (hQ : ∀ M0' M', rv_AT G M0' B n 200 tp bc pl na ta ba wa oa tr br T → se_o se st sg nu M0 M0' → rv_S G M0' n 200 tp pl na wa oa tr br t PL WA OA TO BI nm M' → se_R G M0' se st sg nu (cs ++ [(j, z, v)]) o → Q (some (.inl 1)) G M') : mj_R mj_tab (d + 1) 54 [.inr (.inr (some se)), .inr (.inr (some w)), .inl z, .inl v] G M Q := by
  have hD0 := hD
  obtain ⟨gse, gst, gsg, gnu, e0, e1, e2⟩ := hD0
  obtain ⟨s4, s5, sj⟩ := hR
  have gtp := hA.1.1
  have hx : ∀ x ∈ [1006, 34105, 35100, 36100], x ≠ 1008 ∧ x ≠ 1004 ∧ x ≠ 29100 ∧ x ≠ 30100 ∧ x ≠ 26100 ∧ x ≠ 28100 := by decide
  have ese := rv_S.fx hA hS gse (hx _ (by decide))
  have m4 : M.1 se 4 = (cs.length : Int) := (congrFun ese 4).trans s4
  refine ⟨Nat.le_of_ble_eq_true rfl, ?_⟩
  show wz d mt_X5_add.2.2.2.2.1 Q mt_X5_add.2.2.2.2.1 [some (.inr (.inr (some se))), some (.inr (.inr (some w))), some (.inl z), some (.inl v)] [] G M _ _
  refine w_aln rfl ?_
  refine w_gi gse rfl (by decide) rfl m4 ?_
  refine w_bp ?_
  refine w_cmge (fun c => by exfalso; omega) (fun c => ?_)
  refine w_aln rfl ?_
  refine w_gr gse rfl (by decide) rfl (hS.rq gse gtp (by decide) e0) ?_
  refine w_aln rfl ?_
  refine w_gi gse rfl (by decide) rfl m4 ?_
  refine w_aln rfl ?_
  refine w_aast gst rfl (by decide) (by omega) (by show ((cs.length : Nat) : Int) < ((40 : Nat) : Int); omega) gw (by omega) ?_
  refine w_aln rfl ?_
  refine w_gr gse rfl (by decide) rfl ((wz_nr (Or.inl (hn_ne gse gst (by decide)))).trans (hS.rq gse gtp (by decide) e1)) ?_
  refine w_aln rfl ?_
  refine w_gi gse rfl (by decide) rfl m4 ?_
  refine w_iln rfl ?_
  refine w_iast gsg rfl (by decide) (by omega) (by show ((cs.length : Nat) : Int) < ((40 : Nat) : Int); omega) ?_
  refine w_aln rfl ?_
  refine w_gr gse rfl (by decide) rfl ((wz_nr (Or.inl (hn_ne gse gst (by decide)))).trans (hS.rq gse gtp (by decide) e2)) ?_
  refine w_aln rfl ?_
  refine w_gi gse rfl (by decide) rfl ((hn_n (Or.inl (hn_ne gse gsg (by decide)))).trans m4) ?_
  refine w_iln rfl ?_
  refine w_iast gnu rfl (by decide) (by omega) (by show ((cs.length : Nat) : Int) < ((40 : Nat) : Int); omega) ?_
  refine w_aln rfl ?_
  refine w_dupr ?_
  refine w_gi gse rfl (by decide) rfl ((hn_n (Or.inl (hn_ne gse gnu (by decide)))).trans ((hn_n (Or.inl (hn_ne gse gsg (by decide)))).trans m4)) ?_
  refine w_ic ?_
  refine w_add ⟨by omega, by omega⟩ ?_
  refine w_pi gse rfl (by decide) rfl (fun q => by cases q) ?_
  rw [Int.toNat_natCast]
  refine w_ic ?_
  have nsg : sg ≠ se := hn_ne gsg gse (by decide)
  have nnu : nu ≠ se := hn_ne gnu gse (by decide)
  have nsn : sg ≠ nu := hn_ne gsg gnu (by decide)
  have oo : se_o se st sg nu M0 (mj_p0 (mj_p0 (mj_p0 (mj_p2 M0 st cs.length (some w)) sg cs.length z) nu cs.length v) se 4 ((cs.length : Int) + 1)) := ⟨fun a a1 a2 a3 => (wz_c a1).trans ((wz_c a3).trans (wz_c a2)), rfl, fun a a1 => funext fun k => wz_nr (Or.inl a1)⟩
  have a1 : rv_AT G (mj_p2 M0 st cs.length (some w)) B n 200 tp bc pl na ta ba wa oa tr br T := hA.so hD ⟨fun _ _ _ _ => rfl, rfl, fun a a1 => funext fun k => wz_nr (Or.inl a1)⟩
  have s1 := rv_S.put2 (j := cs.length) (b := some w) hA hS gst (by decide)
  have a2 := a1.put (a := sg) (j := cs.length) (v := z) (hn_ne gsg hA.1.2.1 (by decide))
  have s2 := rv_S.put (j := cs.length) (v := z) a1 s1 gsg (hx _ (by decide))
  have a3 := a2.put (a := nu) (j := cs.length) (v := v) (hn_ne gnu hA.1.2.1 (by decide))
  have s3 := rv_S.put (j := cs.length) (v := v) a2 s2 gnu (hx _ (by decide))
  have s4' := rv_S.put (j := 4) (v := (cs.length : Int) + 1) a3 s3 gse (hx _ (by decide))
  refine w_iret (fun _ => Or.inr rfl) (hQ _ _ (hA.so hD oo) oo s4' ⟨hn_s.trans (by rw [se_len]; rfl), (hn_n (Or.inr (by decide))).trans ((hn_n (Or.inl (hn_ne gse gnu (by decide)))).trans ((hn_n (Or.inl (hn_ne gse gsg (by decide)))).trans s5)), fun i hi => ?_⟩)
  rw [se_len] at hi
  by_cases c : i < cs.length
  · obtain ⟨⟨a, p1, p2⟩, p3, p4⟩ := sj i c
    rw [se_gl c]
    exact ⟨⟨a, (wz_nr (Or.inr (by omega))).trans p1, p2⟩, (congrFun (wz_c nsg) i).trans ((congrFun (wz_c nsn) i).trans ((hn_n (Or.inr (by omega))).trans p3)), (congrFun (wz_c nnu) i).trans ((hn_n (Or.inr (by omega))).trans ((congrFun (wz_c nsn.symm) i).trans p4))⟩
  · have e : i = cs.length := by omega
    subst e
    rw [se_gr]
    exact ⟨⟨w, wz_sr, gw⟩, (congrFun (wz_c nsg) _).trans ((congrFun (wz_c nsn) _).trans hn_s), (congrFun (wz_c nnu) _).trans hn_s⟩
theorem r_isMeasure (hI : ∀ a b, (G a).1 % 1000 = 50 → G a = G b → a = b) (gw : G w = (900050 + 1000 * j, 0)) (j1 : j < 24) (h1 : 17 ≤ j → Q (some (.inl 1)) G M) (h0 : ¬ 17 ≤ j → Q (some (.inl 0)) G M) : mj_R mj_tab (d + 1) 264 [.inr (.inr (some w))] G M Q := by
  have yes : 17 ≤ j → ∀ cb sb, wz d mt_X9_isMeasure.2.2.2.2.1 Q (mt_X9_isMeasure.2.2.2.2.1.drop 21) [some (.inr (.inr (some w)))] [] G M cb sb := fun e cb sb => by
    refine w_ic ?_
    refine w_goto ?_
    exact w_iret (fun _ => Or.inr rfl) (h1 e)
  refine ⟨Nat.le_of_ble_eq_true rfl, ?_⟩
  show wz d mt_X9_isMeasure.2.2.2.2.1 Q mt_X9_isMeasure.2.2.2.2.1 [some (.inr (.inr (some w)))] [] G M _ _
  refine w_aln rfl ?_
  refine w_gs ?_
  intro a17 ga17
  have e17 := se_eq (k := 17) hI gw ga17
  refine w_aceq (fun c => yes (by have := e17.1 c; omega) _ _) (fun c => ?_)
  have n17 : j ≠ 17 := fun h => c (e17.2 h)
  refine w_aln rfl ?_
  refine w_gs ?_
  intro a18 ga18
  have e18 := se_eq (k := 18) hI gw ga18
  refine w_aceq (fun c => yes (by have := e18.1 c; omega) _ _) (fun c => ?_)
  have n18 : j ≠ 18 := fun h => c (e18.2 h)
  refine w_aln rfl ?_
  refine w_gs ?_
  intro a19 ga19
  have e19 := se_eq (k := 19) hI gw ga19
  refine w_aceq (fun c => yes (by have := e19.1 c; omega) _ _) (fun c => ?_)
  have n19 : j ≠ 19 := fun h => c (e19.2 h)
  refine w_aln rfl ?_
  refine w_gs ?_
  intro a20 ga20
  have e20 := se_eq (k := 20) hI gw ga20
  refine w_aceq (fun c => yes (by have := e20.1 c; omega) _ _) (fun c => ?_)
  have n20 : j ≠ 20 := fun h => c (e20.2 h)
  refine w_aln rfl ?_
  refine w_gs ?_
  intro a21 ga21
  have e21 := se_eq (k := 21) hI gw ga21
  refine w_aceq (fun c => yes (by have := e21.1 c; omega) _ _) (fun c => ?_)
  have n21 : j ≠ 21 := fun h => c (e21.2 h)
  refine w_aln rfl ?_
  refine w_gs ?_
  intro a22 ga22
  have e22 := se_eq (k := 22) hI gw ga22
  refine w_aceq (fun c => yes (by have := e22.1 c; omega) _ _) (fun c => ?_)
  have n22 : j ≠ 22 := fun h => c (e22.2 h)
  refine w_aln rfl ?_
  refine w_gs ?_
  intro a23 ga23
  have e23 := se_eq (k := 23) hI gw ga23
  refine w_acne (fun c => ?_) (fun c => yes (by have := e23.1 c; omega) _ _)
  have n23 : j ≠ 23 := fun h => c (e23.2 h)
  refine w_ic ?_
  exact w_iret (fun _ => Or.inl rfl) (h0 (by omega))
theorem se_begins {r : Option Nat} (hI : ∀ a b, (G a).1 % 1000 = 50 → G a = G b → a = b) (hr : (∃ w, r = some w ∧ j < 24 ∧ G w = (900050 + 1000 * j, 0)) ∨ (j = 24 ∧ r = none)) (h1 : 14 ≤ j ∧ j < 24 → Q (some (.inl 1)) G M) (h0 : ¬ (14 ≤ j ∧ j < 24) → Q (some (.inl 0)) G M) : mj_R mj_tab (d + 2) 55 [.inr (.inr r)] G M Q := by
  have yes : 14 ≤ j ∧ j < 24 → ∀ cb sb, wz (d + 1) mt_X5_begins.2.2.2.2.1 Q (mt_X5_begins.2.2.2.2.1.drop 14) [some (.inr (.inr r))] [] G M cb sb := fun e cb sb => by
    refine w_ic ?_
    refine w_goto ?_
    exact w_iret (fun _ => Or.inr rfl) (h1 e)
  have no : ¬ (14 ≤ j ∧ j < 24) → ∀ cb sb, wz (d + 1) mt_X5_begins.2.2.2.2.1 Q (mt_X5_begins.2.2.2.2.1.drop 16) [some (.inr (.inr r))] [] G M cb sb := fun e cb sb => by
    refine w_ic ?_
    exact w_iret (fun _ => Or.inl rfl) (h0 e)
  refine ⟨Nat.le_of_ble_eq_true rfl, ?_⟩
  show wz (d + 1) mt_X5_begins.2.2.2.2.1 Q mt_X5_begins.2.2.2.2.1 [some (.inr (.inr r))] [] G M _ _
  rcases hr with ⟨w, rfl, j1, gw⟩ | ⟨j1, rfl⟩
  · refine w_aln rfl ?_
    refine w_ifnull (fun c => by cases c) (fun _ => ?_)
    refine w_aln rfl ?_
    refine w_gs ?_
    intro a14 ga14
    have e14 := se_eq (k := 14) hI gw ga14
    refine w_aceq (fun c => yes (by have := e14.1 c; omega) _ _) (fun c => ?_)
    have n14 : j ≠ 14 := fun h => c (e14.2 h)
    refine w_aln rfl ?_
    refine w_gs ?_
    intro a15 ga15
    have e15 := se_eq (k := 15) hI gw ga15
    refine w_aceq (fun c => yes (by have := e15.1 c; omega) _ _) (fun c => ?_)
    have n15 : j ≠ 15 := fun h => c (e15.2 h)
    refine w_aln rfl ?_
    refine w_gs ?_
    intro a16 ga16
    have e16 := se_eq (k := 16) hI gw ga16
    refine w_aceq (fun c => yes (by have := e16.1 c; omega) _ _) (fun c => ?_)
    have n16 : j ≠ 16 := fun h => c (e16.2 h)
    refine w_aln rfl ?_
    refine w_cv (st := []) rfl gw (by omega) (Nat.le_of_ble_eq_true rfl) (fun kk h => h) (r_isMeasure (d := d) hI gw j1 (fun e => ?_) (fun e => ?_))
    · refine w_ifeq (fun c => absurd c (by decide)) (fun _ => ?_)
      exact yes (by omega) _ _
    · refine w_ifeq (fun _ => ?_) (fun c => absurd rfl c)
      exact no (by omega) _ _
  · refine w_aln rfl ?_
    refine w_ifnull (fun _ => no (by omega) _ _) (fun c => absurd rfl c)
theorem r_readClosing (hA : rv_AT G M0 B n 200 tp bc pl na ta ba wa oa tr br T) (hS : rv_S G M0 n 200 tp pl na wa oa tr br (T q) PL WA OA TO BI nm M) (hq : q ≤ n) (h : (se_s (T q) 41 → ∀ M', rv_S G M0 n 200 tp pl na wa oa tr br (T (rv_x T q)) PL WA OA TO BI nm M' → Q (some (.inl 1)) G M') ∧ (¬ se_s (T q) 41 → ∀ M', rv_F tp pl na wa oa tr br M0 1 (T q).2.1 M' → Q (some (.inl 0)) G M')) : mj_R mj_tab (d + 4) 62 [.inr (.inr (some se)), .inr (.inr (some tp))] G M Q := by
  have gtp := hA.1.1
  refine ⟨Nat.le_of_ble_eq_true rfl, ?_⟩
  show wz (d + 3) mt_X5_readClosing.2.2.2.2.1 Q mt_X5_readClosing.2.2.2.2.1 [some (.inr (.inr (some se))), some (.inr (.inr (some tp)))] [] G M _ _
  refine w_aln rfl ?_
  refine w_bp ?_
  refine w_cv (st := []) rfl gtp rfl (Nat.le_of_ble_eq_true rfl) (fun kk h => h) (r_X7_isSign (d := d + 2) hA hS (fun e => ?_) (fun e => ?_))
  · refine w_ifne (fun _ => ?_) (fun c => absurd c (by decide))
    refine w_aln rfl ?_
    refine w_cv (st := []) rfl gtp rfl (Nat.le_of_ble_eq_true rfl) (fun kk h => h) (r_adv2 (d := d) hA hS hq (fun M1 s1 => ?_))
    refine w_ic ?_
    exact w_iret (fun _ => Or.inr rfl) (h.1 e M1 s1)
  · refine w_ifne (fun c => absurd rfl c) (fun _ => ?_)
    refine w_aln rfl ?_
    refine w_ic ?_
    refine w_cv (st := []) rfl gtp rfl (Nat.le_of_ble_eq_true rfl) (fun kk h => h) (r_X7_refuse (d := d + 2) hA hS (by decide) (fun M' F => ?_))
    exact w_iret (fun _ => Or.inl rfl) (h.2 e M' F)
theorem r_readMeasure (hA : rv_AT G M0 B n 200 tp bc pl na ta ba wa oa tr br T) (hS : rv_S G M0 n 200 tp pl na wa oa tr br (T q) PL WA OA TO BI nm M) (hq : q ≤ n) (hD : se_D G M0 se st sg nu) (hR : se_R G M0 se st sg nu cs o) (hl : cs.length < 40) (gw : G w = (900050 + 1000 * j, 0)) (h : se_M T (fun f a => ∀ M', rv_F tp pl na wa oa tr br M0 f a M' → Q (some (.inl 0)) G M') q (fun z v q' => q ≤ q' → q' ≤ n → ∀ M0' M', rv_AT G M0' B n 200 tp bc pl na ta ba wa oa tr br T → se_o se st sg nu M0 M0' → rv_S G M0' n 200 tp pl na wa oa tr br (T q') PL WA OA TO BI nm M' → se_R G M0' se st sg nu (cs ++ [(j, z, v)]) o → Q (some (.inl 1)) G M')) : mj_R mj_tab (d + 5) 64 [.inr (.inr (some se)), .inr (.inr (some tp)), .inr (.inr (some w))] G M Q := by
  have gtp := hA.1.1
  have gse := hD.1
  obtain ⟨k4, k5, k11, k6, k7, k8, k9⟩ := id hS.2.1
  have l1 := rv_x_le hA hq
  have g1 := rv_x_ge hA hq
  have l2 := rv_x_le hA l1
  have g2 := rv_x_ge hA l1
  have good : se_z (T q) → ∀ cb sb, wz (d + 4) mt_X5_readMeasure.2.2.2.2.1 Q (mt_X5_readMeasure.2.2.2.2.1.drop 16) [some (.inr (.inr (some se))), some (.inr (.inr (some tp))), some (.inr (.inr (some w))), none, none] [] G M cb sb := fun e cb sb => by
    refine w_aln rfl ?_
    refine w_gi gtp rfl (by decide) rfl (k7 e.1) ?_
    refine w_isn ?_
    refine w_aln rfl ?_
    refine w_ic ?_
    refine w_sp ?_
    refine w_cv (st := []) rfl gtp rfl (Nat.le_of_ble_eq_true rfl) (fun kk h => h) (r_X7_nextNumber (d := d) hA hS hq ((h.1 e).mono (fun f a hf M' F => ?_) (fun b0 b9 b2 hk M1 s1 => ?_)))
    · refine w_is ?_
      refine w_il rfl ?_
      refine w_ic ?_
      refine w_cmne (fun c => absurd rfl c) (fun c => ?_)
      refine w_ic ?_
      exact w_iret (fun _ => Or.inl rfl) (hf M' F)
    · refine w_is ?_
      refine w_il rfl ?_
      refine w_ic ?_
      refine w_cmne (fun c => ?_) (fun c => by exfalso; omega)
      refine w_aln rfl ?_
      refine w_cv (st := []) rfl gtp rfl (Nat.le_of_ble_eq_true rfl) (fun kk h => h) (r_adv2 (d := d + 1) hA s1 l1 (fun M2 s2 => ?_))
      refine w_aln rfl ?_
      refine w_aln rfl ?_
      refine w_iln rfl ?_
      refine w_il rfl ?_
      refine w_cv (st := []) rfl gse rfl (Nat.le_of_ble_eq_true rfl) (fun kk h => h) (r_X5_add (d := d + 3) hA s2 hD hR hl gw (fun M0' M3 a3 o3 s3 r3 => ?_))
      exact w_iret (fun _ => Or.inr rfl) (hk (by omega) l2 M0' M3 a3 o3 s3 r3)
  refine ⟨Nat.le_of_ble_eq_true rfl, ?_⟩
  show wz (d + 4) mt_X5_readMeasure.2.2.2.2.1 Q mt_X5_readMeasure.2.2.2.2.1 [some (.inr (.inr (some se))), some (.inr (.inr (some tp))), some (.inr (.inr (some w))), none, none] [] G M _ _
  refine w_aln rfl ?_
  refine w_bp ?_
  refine w_cv (st := []) rfl gtp rfl (Nat.le_of_ble_eq_true rfl) (fun kk h => h) (r_X7_isSign (d := d + 3) hA hS (fun e => w_ifne (fun _ => good ⟨e.1, by have := e.2; omega, by have := e.2; omega⟩ _ _) (fun c => absurd c (by decide))) (fun e60 => ?_))
  refine w_ifne (fun c => absurd rfl c) (fun _ => ?_)
  refine w_aln rfl ?_
  refine w_bp ?_
  refine w_cv (st := []) rfl gtp rfl (Nat.le_of_ble_eq_true rfl) (fun kk h => h) (r_X7_isSign (d := d + 3) hA hS (fun e => w_ifne (fun _ => good ⟨e.1, by have := e.2; omega, by have := e.2; omega⟩ _ _) (fun c => absurd c (by decide))) (fun e61 => ?_))
  refine w_ifne (fun c => absurd rfl c) (fun _ => ?_)
  refine w_aln rfl ?_
  refine w_bp ?_
  refine w_cv (st := []) rfl gtp rfl (Nat.le_of_ble_eq_true rfl) (fun kk h => h) (r_X7_isSign (d := d + 3) hA hS (fun e => w_ifne (fun _ => good ⟨e.1, by have := e.2; omega, by have := e.2; omega⟩ _ _) (fun c => absurd c (by decide))) (fun e62 => ?_))
  refine w_ifne (fun c => absurd rfl c) (fun _ => ?_)
  refine w_aln rfl ?_
  refine w_ic ?_
  refine w_cv (st := []) rfl gtp rfl (Nat.le_of_ble_eq_true rfl) (fun kk h => h) (r_X7_refuse (d := d + 3) hA hS (by decide) (fun M' F => ?_))
  refine w_iret (fun _ => Or.inl rfl) (h.2 (fun e => ?_) M' F)
  have b1 := e.2.1
  have b2 := e.2.2
  have c0 : ¬ (T q).2.2.1 = 60 := fun g => e60 ⟨e.1, g⟩
  have c1 : ¬ (T q).2.2.1 = 61 := fun g => e61 ⟨e.1, g⟩
  have c2 : ¬ (T q).2.2.1 = 62 := fun g => e62 ⟨e.1, g⟩
  omega
end UB
