/-! ===== the class's clear (laid by a program) ===== -/
def rv_C (M0 : mj_M) (pl na wa oa : Nat) (tr br : Nat → Nat) (PL WA OA : Nat → Int) (TO BI : Nat → Nat → Int) (NA : Nat → Int64) (M : mj_M) : Prop :=
  M.1 pl = PL ∧ M.1 wa = WA ∧ M.1 oa = OA ∧ (∀ s, s < 8 → M.1 (tr s) = TO s) ∧ (∀ s, s < 8 → M.1 (br s) = BI s) ∧ M.2.1 na = NA ∧ (∀ a, a ≠ pl → a ≠ wa → a ≠ oa → (∀ t, t < 8 → a ≠ tr t) → (∀ t, t < 8 → a ≠ br t) → M.1 a = M0.1 a) ∧ (∀ a, a ≠ na → M.2.1 a = M0.2.1 a) ∧ M.2.2 = M0.2.2
def rv_upl (f : Nat → Int64) (j : Nat) (v : Int64) : Nat → Int64 := fun k => if k = j then v else f k
theorem rv_C.ppl {G : mj_G} {M0 M : mj_M} {B : Nat → Int} {n lim tp bc pl na ta ba wa oa : Nat} {tr br : Nat → Nat} {PL WA OA : Nat → Int} {TO BI : Nat → Nat → Int} {NA : Nat → Int64} {j : Nat} {v : Int} (hA : rv_A G M0 B n lim tp bc pl na ta ba wa oa tr br) (h : rv_C M0 pl na wa oa tr br PL WA OA TO BI NA M) : rv_C M0 pl na wa oa tr br (rv_up PL j v) WA OA TO BI NA (mj_p0 M pl j v) := by
  obtain ⟨gtp, gbc, gpl, gna, gta, gba, gwa, goa, gtr, gbr, itr, ibr, -⟩ := hA
  obtain ⟨h5, h6, h7, h8, h9, h10, f1, f2, f3⟩ := h
  exact ⟨wz_u.trans (by rw [h5]), (wz_c (hn_ne gwa gpl (by decide))).trans h6, (wz_c (hn_ne goa gpl (by decide))).trans h7, fun s hs => (wz_c (hn_ne (gtr s hs) gpl (by decide))).trans (h8 s hs), fun s hs => (wz_c (hn_ne (gbr s hs) gpl (by decide))).trans (h9 s hs), h10, fun a a2 a3 a4 a5 a6 => (wz_c a2).trans (f1 a a2 a3 a4 a5 a6), f2, f3⟩
theorem rv_C.pwa {G : mj_G} {M0 M : mj_M} {B : Nat → Int} {n lim tp bc pl na ta ba wa oa : Nat} {tr br : Nat → Nat} {PL WA OA : Nat → Int} {TO BI : Nat → Nat → Int} {NA : Nat → Int64} {j : Nat} {v : Int} (hA : rv_A G M0 B n lim tp bc pl na ta ba wa oa tr br) (h : rv_C M0 pl na wa oa tr br PL WA OA TO BI NA M) : rv_C M0 pl na wa oa tr br PL (rv_up WA j v) OA TO BI NA (mj_p0 M wa j v) := by
  obtain ⟨gtp, gbc, gpl, gna, gta, gba, gwa, goa, gtr, gbr, itr, ibr, -⟩ := hA
  obtain ⟨h5, h6, h7, h8, h9, h10, f1, f2, f3⟩ := h
  exact ⟨(wz_c (hn_ne gpl gwa (by decide))).trans h5, wz_u.trans (by rw [h6]), (wz_c (hn_ne goa gwa (by decide))).trans h7, fun s hs => (wz_c (hn_ne (gtr s hs) gwa (by decide))).trans (h8 s hs), fun s hs => (wz_c (hn_ne (gbr s hs) gwa (by decide))).trans (h9 s hs), h10, fun a a2 a3 a4 a5 a6 => (wz_c a3).trans (f1 a a2 a3 a4 a5 a6), f2, f3⟩
theorem rv_C.poa {G : mj_G} {M0 M : mj_M} {B : Nat → Int} {n lim tp bc pl na ta ba wa oa : Nat} {tr br : Nat → Nat} {PL WA OA : Nat → Int} {TO BI : Nat → Nat → Int} {NA : Nat → Int64} {j : Nat} {v : Int} (hA : rv_A G M0 B n lim tp bc pl na ta ba wa oa tr br) (h : rv_C M0 pl na wa oa tr br PL WA OA TO BI NA M) : rv_C M0 pl na wa oa tr br PL WA (rv_up OA j v) TO BI NA (mj_p0 M oa j v) := by
  obtain ⟨gtp, gbc, gpl, gna, gta, gba, gwa, goa, gtr, gbr, itr, ibr, -⟩ := hA
  obtain ⟨h5, h6, h7, h8, h9, h10, f1, f2, f3⟩ := h
  exact ⟨(wz_c (hn_ne gpl goa (by decide))).trans h5, (wz_c (hn_ne gwa goa (by decide))).trans h6, wz_u.trans (by rw [h7]), fun s hs => (wz_c (hn_ne (gtr s hs) goa (by decide))).trans (h8 s hs), fun s hs => (wz_c (hn_ne (gbr s hs) goa (by decide))).trans (h9 s hs), h10, fun a a2 a3 a4 a5 a6 => (wz_c a4).trans (f1 a a2 a3 a4 a5 a6), f2, f3⟩
theorem rv_C.ptr {G : mj_G} {M0 M : mj_M} {B : Nat → Int} {n lim tp bc pl na ta ba wa oa : Nat} {tr br : Nat → Nat} {PL WA OA : Nat → Int} {TO BI : Nat → Nat → Int} {NA : Nat → Int64} {j q : Nat} {v : Int} (hA : rv_A G M0 B n lim tp bc pl na ta ba wa oa tr br) (h : rv_C M0 pl na wa oa tr br PL WA OA TO BI NA M) (hq : q < 8) : rv_C M0 pl na wa oa tr br PL WA OA (rv_up2 TO q j v) BI NA (mj_p0 M (tr q) j v) := by
  obtain ⟨gtp, gbc, gpl, gna, gta, gba, gwa, goa, gtr, gbr, itr, ibr, -⟩ := hA
  obtain ⟨h5, h6, h7, h8, h9, h10, f1, f2, f3⟩ := h
  exact ⟨(wz_c (hn_ne gpl (gtr q hq) (by decide))).trans h5, (wz_c (hn_ne gwa (gtr q hq) (by decide))).trans h6, (wz_c (hn_ne goa (gtr q hq) (by decide))).trans h7, fun s hs => by
    by_cases c : s = q
    · rw [c, wz_u, h8 q hq]; exact (if_pos rfl).symm
    · rw [wz_c (fun e => c (itr s q hs hq e)), h8 s hs]; exact (if_neg c).symm, fun s hs => (wz_c (hn_ne (gbr s hs) (gtr q hq) (by decide))).trans (h9 s hs), h10, fun a a2 a3 a4 a5 a6 => (wz_c (a5 q hq)).trans (f1 a a2 a3 a4 a5 a6), f2, f3⟩
theorem rv_C.pbr {G : mj_G} {M0 M : mj_M} {B : Nat → Int} {n lim tp bc pl na ta ba wa oa : Nat} {tr br : Nat → Nat} {PL WA OA : Nat → Int} {TO BI : Nat → Nat → Int} {NA : Nat → Int64} {j q : Nat} {v : Int} (hA : rv_A G M0 B n lim tp bc pl na ta ba wa oa tr br) (h : rv_C M0 pl na wa oa tr br PL WA OA TO BI NA M) (hq : q < 8) : rv_C M0 pl na wa oa tr br PL WA OA TO (rv_up2 BI q j v) NA (mj_p0 M (br q) j v) := by
  obtain ⟨gtp, gbc, gpl, gna, gta, gba, gwa, goa, gtr, gbr, itr, ibr, -⟩ := hA
  obtain ⟨h5, h6, h7, h8, h9, h10, f1, f2, f3⟩ := h
  exact ⟨(wz_c (hn_ne gpl (gbr q hq) (by decide))).trans h5, (wz_c (hn_ne gwa (gbr q hq) (by decide))).trans h6, (wz_c (hn_ne goa (gbr q hq) (by decide))).trans h7, fun s hs => (wz_c (hn_ne (gtr s hs) (gbr q hq) (by decide))).trans (h8 s hs), fun s hs => by
    by_cases c : s = q
    · rw [c, wz_u, h9 q hq]; exact (if_pos rfl).symm
    · rw [wz_c (fun e => c (ibr s q hs hq e)), h9 s hs]; exact (if_neg c).symm, h10, fun a a2 a3 a4 a5 a6 => (wz_c (a6 q hq)).trans (f1 a a2 a3 a4 a5 a6), f2, f3⟩
theorem rv_C.pna {M0 M : mj_M} {pl na wa oa : Nat} {tr br : Nat → Nat} {PL WA OA : Nat → Int} {TO BI : Nat → Nat → Int} {NA : Nat → Int64} {j : Nat} {v : Int64} (h : rv_C M0 pl na wa oa tr br PL WA OA TO BI NA M) : rv_C M0 pl na wa oa tr br PL WA OA TO BI (rv_upl NA j v) (mj_p1 M na j v) := by
  obtain ⟨h5, h6, h7, h8, h9, h10, f1, f2, f3⟩ := h
  refine ⟨h5, h6, h7, h8, h9, funext fun k => ?_, f1, fun a a1 => (funext fun k => wz_nl (Or.inl a1)).trans (f2 a a1), f3⟩
  show (if na = na ∧ k = j then v else M.2.1 na k) = if k = j then v else NA k
  by_cases c : k = j
  · rw [if_pos ⟨rfl, c⟩, if_pos c]
  · rw [if_neg (fun q => c q.2), if_neg c, h10]
theorem rv_up2_s {f : Nat → Nat → Int} {t j : Nat} {v : Int} : rv_up2 f t j v t j = v := by unfold rv_up2; rw [if_pos rfl]; exact rv_up_s
theorem rv_up2_n {f : Nat → Nat → Int} {t j k : Nat} {v : Int} (h : k ≠ j) : rv_up2 f t j v t k = f t k := by unfold rv_up2; rw [if_pos rfl]; exact rv_up_n h
theorem rv_up2_o {f : Nat → Nat → Int} {s t j : Nat} {v : Int} (h : s ≠ t) : rv_up2 f t j v s = f s := if_neg h
theorem r_clr_to {G : mj_G} {M0 : mj_M} {B : Nat → Int} {n lim tp bc pl na ta ba wa oa : Nat} {tr br : Nat → Nat} {PL WA OA : Nat → Int} {BI : Nat → Nat → Int} {NA : Nat → Int64} {d : Nat} {Q : mj_P} {t : Nat} (hA : rv_A G M0 B n lim tp bc pl na ta ba wa oa tr br) (ht : t < 8) : ∀ (f k : Nat) (TO : Nat → Nat → Int) (M : mj_M) (cb sb : Nat), k + f = 9 → rv_C M0 pl na wa oa tr br PL WA OA TO BI NA M → (∀ TO' M', rv_C M0 pl na wa oa tr br PL WA OA TO' BI NA M' → (∀ s, s ≠ t → TO' s = TO s) → (∀ w, k ≤ w → w < 9 → TO' t w = 0) → (∀ w, w < k → TO' t w = TO t w) → wz d mt_X3_clear.2.2.2.2.1 Q (mt_X3_clear.2.2.2.2.1.drop 29) [some (.inr (.inr (some pl))), some (.inl (t : Int)), some (.inl 9)] [] G M' cb sb) → wz d mt_X3_clear.2.2.2.2.1 Q (mt_X3_clear.2.2.2.2.1.drop 17) [some (.inr (.inr (some pl))), some (.inl (t : Int)), some (.inl (k : Int))] [] G M cb sb := by
  have hA1 := hA
  obtain ⟨gtp, gbc, gpl, gna, gta, gba, gwa, goa, gtr, gbr, itr, ibr, r1, r2, r3, r4, r5, r6, r7, r8, -⟩ := hA
  intro f
  induction f with
  | zero =>
    intro k TO M cb sb hk hC kk
    have e : k = 9 := by omega
    subst e
    refine w_iln rfl ?_
    refine w_bp ?_
    refine w_cmge (fun c => ?_) (fun c => by exfalso; omega)
    exact kk TO M hC (fun _ _ => rfl) (fun w h1 h2 => by omega) (fun _ _ => rfl)
  | succ f ih =>
    intro k TO M cb sb hk hC kk
    refine w_iln rfl ?_
    refine w_bp ?_
    refine w_cmge (fun c => by exfalso; omega) (fun c => ?_)
    refine w_aln rfl ?_
    refine w_gr gpl rfl (by decide) rfl (by rw [hC.2.2.2.2.2.2.2.2]; exact r3) ?_
    refine w_iln rfl ?_
    refine w_aald (b := tr t) gta rfl (by omega) (by show (t : Int) < ((8 : Nat) : Int); omega) (by rw [hC.2.2.2.2.2.2.2.2]; exact r7 t ht) ?_
    refine w_iln rfl ?_
    refine w_ic ?_
    refine w_iast (gtr t ht) rfl (by decide) (by omega) (by show (k : Int) < ((9 : Nat) : Int); omega) ?_
    have s1 := hC.ptr (j := ((k : Int)).toNat) (q := t) (v := 0) hA1 ht
    refine w_ii rfl ⟨by omega, by omega⟩ ?_
    refine w_goto ?_
    refine ih (k + 1) _ _ _ _ (by omega) s1 (fun F' M' hC' e1 e2 e3 => kk F' M' hC' (fun s hs => (e1 s hs).trans (rv_up2_o hs)) (fun w h1 h2 => ?_) (fun w hw => (e3 w (by omega)).trans (rv_up2_n (by omega))))
    rcases Nat.lt_or_ge k w with q | q
    · exact e2 w (by omega) h2
    · rw [e3 w (by omega), show w = k by omega]; exact rv_up2_s
theorem r_clr_bi {G : mj_G} {M0 : mj_M} {B : Nat → Int} {n lim tp bc pl na ta ba wa oa : Nat} {tr br : Nat → Nat} {PL WA OA : Nat → Int} {TO : Nat → Nat → Int} {NA : Nat → Int64} {d : Nat} {Q : mj_P} {t : Nat} (hA : rv_A G M0 B n lim tp bc pl na ta ba wa oa tr br) (ht : t < 8) : ∀ (f k : Nat) (BI : Nat → Nat → Int) (M : mj_M) (cb sb : Nat), k + f = 12 → rv_C M0 pl na wa oa tr br PL WA OA TO BI NA M → (∀ BI' M', rv_C M0 pl na wa oa tr br PL WA OA TO BI' NA M' → (∀ s, s ≠ t → BI' s = BI s) → (∀ w, k ≤ w → w < 12 → BI' t w = 0) → (∀ w, w < k → BI' t w = BI t w) → wz d mt_X3_clear.2.2.2.2.1 Q (mt_X3_clear.2.2.2.2.1.drop 43) [some (.inr (.inr (some pl))), some (.inl (t : Int)), some (.inl 12)] [] G M' cb sb) → wz d mt_X3_clear.2.2.2.2.1 Q (mt_X3_clear.2.2.2.2.1.drop 31) [some (.inr (.inr (some pl))), some (.inl (t : Int)), some (.inl (k : Int))] [] G M cb sb := by
  have hA1 := hA
  obtain ⟨gtp, gbc, gpl, gna, gta, gba, gwa, goa, gtr, gbr, itr, ibr, r1, r2, r3, r4, r5, r6, r7, r8, -⟩ := hA
  intro f
  induction f with
  | zero =>
    intro k BI M cb sb hk hC kk
    have e : k = 12 := by omega
    subst e
    refine w_iln rfl ?_
    refine w_bp ?_
    refine w_cmge (fun c => ?_) (fun c => by exfalso; omega)
    exact kk BI M hC (fun _ _ => rfl) (fun w h1 h2 => by omega) (fun _ _ => rfl)
  | succ f ih =>
    intro k BI M cb sb hk hC kk
    refine w_iln rfl ?_
    refine w_bp ?_
    refine w_cmge (fun c => by exfalso; omega) (fun c => ?_)
    refine w_aln rfl ?_
    refine w_gr gpl rfl (by decide) rfl (by rw [hC.2.2.2.2.2.2.2.2]; exact r4) ?_
    refine w_iln rfl ?_
    refine w_aald (b := br t) gba rfl (by omega) (by show (t : Int) < ((8 : Nat) : Int); omega) (by rw [hC.2.2.2.2.2.2.2.2]; exact r8 t ht) ?_
    refine w_iln rfl ?_
    refine w_ic ?_
    refine w_iast (gbr t ht) rfl (by decide) (by omega) (by show (k : Int) < ((12 : Nat) : Int); omega) ?_
    have s1 := hC.pbr (j := ((k : Int)).toNat) (q := t) (v := 0) hA1 ht
    refine w_ii rfl ⟨by omega, by omega⟩ ?_
    refine w_goto ?_
    refine ih (k + 1) _ _ _ _ (by omega) s1 (fun F' M' hC' e1 e2 e3 => kk F' M' hC' (fun s hs => (e1 s hs).trans (rv_up2_o hs)) (fun w h1 h2 => ?_) (fun w hw => (e3 w (by omega)).trans (rv_up2_n (by omega))))
    rcases Nat.lt_or_ge k w with q | q
    · exact e2 w (by omega) h2
    · rw [e3 w (by omega), show w = k by omega]; exact rv_up2_s
theorem r_clr_out {G : mj_G} {M0 : mj_M} {B : Nat → Int} {n lim tp bc pl na ta ba wa oa : Nat} {tr br : Nat → Nat} {PL WA : Nat → Int} {d : Nat} {Q : mj_P} (hA : rv_A G M0 B n lim tp bc pl na ta ba wa oa tr br) : ∀ (f t : Nat) (OA : Nat → Int) (TO BI : Nat → Nat → Int) (NA : Nat → Int64) (M : mj_M) (v2 : Option mj_V) (cb sb : Nat), t + f = 8 → rv_C M0 pl na wa oa tr br PL WA OA TO BI NA M → (∀ OA' TO' BI' NA' M' v2, rv_C M0 pl na wa oa tr br PL WA OA' TO' BI' NA' M' → (∀ s, t ≤ s → s < 8 → NA' s = 0 ∧ OA' s = 0 ∧ (∀ w, w < 9 → TO' s w = 0) ∧ (∀ w, w < 12 → BI' s w = 0)) → (∀ s, s < t → NA' s = NA s ∧ OA' s = OA s ∧ TO' s = TO s ∧ BI' s = BI s) → wz d mt_X3_clear.2.2.2.2.1 Q (mt_X3_clear.2.2.2.2.1.drop 45) [some (.inr (.inr (some pl))), some (.inl 8), v2] [] G M' cb sb) → wz d mt_X3_clear.2.2.2.2.1 Q (mt_X3_clear.2.2.2.2.1.drop 2) [some (.inr (.inr (some pl))), some (.inl (t : Int)), v2] [] G M cb sb := by
  have hA1 := hA
  obtain ⟨gtp, gbc, gpl, gna, gta, gba, gwa, goa, gtr, gbr, itr, ibr, r1, r2, r3, r4, r5, r6, r7, r8, -⟩ := hA
  intro f
  induction f with
  | zero =>
    intro t OA TO BI NA M v2 cb sb hk hC kk
    have e : t = 8 := by omega
    subst e
    refine w_iln rfl ?_
    refine w_bp ?_
    refine w_cmge (fun c => ?_) (fun c => by exfalso; omega)
    exact kk OA TO BI NA M v2 hC (fun s h1 h2 => by omega) (fun s hs => ⟨rfl, rfl, rfl, rfl⟩)
  | succ f ih =>
    intro t OA TO BI NA M v2 cb sb hk hC kk
    have ht : t < 8 := by omega
    refine w_iln rfl ?_
    refine w_bp ?_
    refine w_cmge (fun c => by exfalso; omega) (fun c => ?_)
    refine w_aln rfl ?_
    refine w_gr gpl rfl (by decide) rfl (by rw [hC.2.2.2.2.2.2.2.2]; exact r2) ?_
    refine w_iln rfl ?_
    refine w_lc ?_
    refine w_last gna rfl (by decide) (by omega) (by show (t : Int) < ((8 : Nat) : Int); omega) ?_
    have s1 := hC.pna (j := ((t : Int)).toNat) (v := (Int64.ofNat (0 : Fin 2).val))
    refine w_aln rfl ?_
    refine w_gr gpl rfl (by decide) rfl (by rw [s1.2.2.2.2.2.2.2.2]; exact r6) ?_
    refine w_iln rfl ?_
    refine w_ic ?_
    refine w_iast goa rfl (by decide) (by omega) (by show (t : Int) < ((8 : Nat) : Int); omega) ?_
    have s2 := s1.poa (j := ((t : Int)).toNat) (v := 0) hA1
    refine w_ic ?_
    refine w_isn ?_
    refine r_clr_to hA1 ht 9 0 _ _ _ _ (by omega) s2 (fun TO1 M1 s3 d1 d2 d3 => ?_)
    refine w_ic ?_
    refine w_isn ?_
    refine r_clr_bi hA1 ht 12 0 _ _ _ _ (by omega) s3 (fun BI1 M2 s4 e1 e2 e3 => ?_)
    refine w_ii rfl ⟨by omega, by omega⟩ ?_
    refine w_goto ?_
    refine ih (t + 1) _ _ _ _ _ _ _ _ (by omega) s4 (fun OA' TO' BI' NA' M' v2' hC' z1 z2 => kk OA' TO' BI' NA' M' v2' hC' (fun s h1 h2 => ?_) (fun s hs => ?_))
    · rcases Nat.lt_or_ge t s with q | q
      · exact z1 s (by omega) h2
      · have e : s = t := by omega
        obtain ⟨y1, y2, y3, y4⟩ := z2 s (by omega)
        rw [y1, y2, y3, y4, e]
        refine ⟨?_, rv_up_s, fun w hw => d2 w (Nat.zero_le _) hw, fun w hw => e2 w (Nat.zero_le _) hw⟩
        show (if t = ((t : Int)).toNat then _ else _) = _
        rw [if_pos (by omega)]; rfl
    · obtain ⟨y1, y2, y3, y4⟩ := z2 s (by omega)
      rw [y1, y2, y3, y4]
      refine ⟨?_, rv_up_n (by omega), d1 s (by omega), e1 s (by omega)⟩
      show (if s = ((t : Int)).toNat then _ else _) = _
      rw [if_neg (by omega)]
theorem r_clr_wa {G : mj_G} {M0 : mj_M} {B : Nat → Int} {n lim tp bc pl na ta ba wa oa : Nat} {tr br : Nat → Nat} {PL OA : Nat → Int} {TO BI : Nat → Nat → Int} {NA : Nat → Int64} {d : Nat} {Q : mj_P} (hA : rv_A G M0 B n lim tp bc pl na ta ba wa oa tr br) {v2 : Option mj_V} : ∀ (f k : Nat) (WA : Nat → Int) (M : mj_M) (cb sb : Nat), k + f = 12 → rv_C M0 pl na wa oa tr br PL WA OA TO BI NA M → (∀ WA' M', rv_C M0 pl na wa oa tr br PL WA' OA TO BI NA M' → (∀ w, k ≤ w → w < 12 → WA' w = 0) → (∀ w, w < k → WA' w = WA w) → wz d mt_X3_clear.2.2.2.2.1 Q (mt_X3_clear.2.2.2.2.1.drop 57) [some (.inr (.inr (some pl))), some (.inl 12), v2] [] G M' cb sb) → wz d mt_X3_clear.2.2.2.2.1 Q (mt_X3_clear.2.2.2.2.1.drop 47) [some (.inr (.inr (some pl))), some (.inl (k : Int)), v2] [] G M cb sb := by
  have hA1 := hA
  obtain ⟨gtp, gbc, gpl, gna, gta, gba, gwa, goa, gtr, gbr, itr, ibr, r1, r2, r3, r4, r5, r6, r7, r8, -⟩ := hA
  intro f
  induction f with
  | zero =>
    intro k WA M cb sb hk hC kk
    have e : k = 12 := by omega
    subst e
    refine w_iln rfl ?_
    refine w_bp ?_
    refine w_cmge (fun c => ?_) (fun c => by exfalso; omega)
    exact kk WA M hC (fun w h1 h2 => by omega) (fun _ _ => rfl)
  | succ f ih =>
    intro k WA M cb sb hk hC kk
    refine w_iln rfl ?_
    refine w_bp ?_
    refine w_cmge (fun c => by exfalso; omega) (fun c => ?_)
    refine w_aln rfl ?_
    refine w_gr gpl rfl (by decide) rfl (by rw [hC.2.2.2.2.2.2.2.2]; exact r5) ?_
    refine w_iln rfl ?_
    refine w_ic ?_
    refine w_iast gwa rfl (by decide) (by omega) (by show (k : Int) < ((12 : Nat) : Int); omega) ?_
    have s1 := hC.pwa (j := ((k : Int)).toNat) (v := 0) hA1
    refine w_ii rfl ⟨by omega, by omega⟩ ?_
    refine w_goto ?_
    refine ih (k + 1) _ _ _ _ (by omega) s1 (fun F' M' hC' e2 e3 => kk F' M' hC' (fun w h1 h2 => ?_) (fun w hw => (e3 w (by omega)).trans (rv_up_n (by omega))))
    rcases Nat.lt_or_ge k w with q | q
    · exact e2 w (by omega) h2
    · rw [e3 w (by omega), show w = k by omega]; exact rv_up_s
/-- all is cleared -/
def rv_0 (PL WA OA : Nat → Int) (TO BI : Nat → Nat → Int) (NA : Nat → Int64) : Prop := (∀ s, s < 8 → NA s = 0 ∧ OA s = 0 ∧ (∀ w, w < 9 → TO s w = 0) ∧ (∀ w, w < 12 → BI s w = 0)) ∧ (∀ w, w < 12 → WA w = 0) ∧ PL 4 = 0 ∧ PL 5 = 0 ∧ PL 6 = 0 ∧ PL 7 = 0 ∧ PL 8 = 3 ∧ PL 11 = 0 ∧ PL 12 = 0 ∧ PL 13 = 0 ∧ PL 14 = 0
theorem r_X3_clear {G : mj_G} {M0 M : mj_M} {B : Nat → Int} {n lim tp bc pl na ta ba wa oa : Nat} {tr br : Nat → Nat} {PL WA OA : Nat → Int} {TO BI : Nat → Nat → Int} {NA : Nat → Int64} {d : Nat} {Q : mj_P} (hA : rv_A G M0 B n lim tp bc pl na ta ba wa oa tr br) (hC : rv_C M0 pl na wa oa tr br PL WA OA TO BI NA M) (hQ : ∀ PL WA OA TO BI NA M', rv_C M0 pl na wa oa tr br PL WA OA TO BI NA M' → rv_0 PL WA OA TO BI NA → Q none G M') : mj_R mj_tab (d + 1) 31 [.inr (.inr (some pl))] G M Q := by
  have hA1 := hA
  obtain ⟨gtp, gbc, gpl, gna, gta, gba, gwa, goa, gtr, gbr, itr, ibr, r1, r2, r3, r4, r5, r6, r7, r8, -⟩ := hA
  refine ⟨Nat.le_of_ble_eq_true rfl, ?_⟩
  show wz d mt_X3_clear.2.2.2.2.1 Q mt_X3_clear.2.2.2.2.1 [some (.inr (.inr (some pl))), none, none] [] G M _ _
  refine w_ic ?_
  refine w_isn ?_
  refine r_clr_out hA1 8 0 OA TO BI NA M _ _ _ (by omega) hC (fun OA1 TO1 BI1 NA1 M1 v2 s0 z1 _ => ?_)
  refine w_ic ?_
  refine w_isn ?_
  refine r_clr_wa hA1 12 0 WA M1 _ _ (by omega) s0 (fun WA1 M2 s1 z2 _ => ?_)
  refine w_aln rfl ?_
  refine w_ic ?_
  refine w_pi gpl rfl (by decide) rfl (fun q => by cases q) ?_
  have s2 := s1.ppl (j := 4) (v := 0) hA1
  refine w_aln rfl ?_
  refine w_ic ?_
  refine w_pi gpl rfl (by decide) rfl (fun q => by cases q) ?_
  have s3 := s2.ppl (j := 5) (v := 0) hA1
  refine w_aln rfl ?_
  refine w_ic ?_
  refine w_pi gpl rfl (by decide) rfl (fun q => by cases q) ?_
  have s4 := s3.ppl (j := 6) (v := 0) hA1
  refine w_aln rfl ?_
  refine w_ic ?_
  refine w_pi gpl rfl (by decide) rfl (fun q => by cases q) ?_
  have s5 := s4.ppl (j := 7) (v := 0) hA1
  refine w_aln rfl ?_
  refine w_ic ?_
  refine w_pi gpl rfl (by decide) rfl (fun q => by cases q) ?_
  have s6 := s5.ppl (j := 8) (v := 3) hA1
  refine w_aln rfl ?_
  refine w_ic ?_
  refine w_pi gpl rfl (by decide) rfl (fun q => by cases q) ?_
  have s7 := s6.ppl (j := 11) (v := 0) hA1
  refine w_aln rfl ?_
  refine w_ic ?_
  refine w_pi gpl rfl (by decide) rfl (fun _ => Or.inl rfl) ?_
  have s8 := s7.ppl (j := 12) (v := 0) hA1
  refine w_aln rfl ?_
  refine w_ic ?_
  refine w_pi gpl rfl (by decide) rfl (fun _ => Or.inl rfl) ?_
  have s9 := s8.ppl (j := 13) (v := 0) hA1
  refine w_aln rfl ?_
  refine w_ic ?_
  refine w_pi gpl rfl (by decide) rfl (fun _ => Or.inl rfl) ?_
  have s10 := s9.ppl (j := 14) (v := 0) hA1
  refine w_ret (hQ _ _ _ _ _ _ _ s10 ⟨fun s hs => z1 s (Nat.zero_le _) hs, fun w hw => z2 w (Nat.zero_le _) hw, (rv_up_n (by decide)).trans ((rv_up_n (by decide)).trans ((rv_up_n (by decide)).trans ((rv_up_n (by decide)).trans ((rv_up_n (by decide)).trans ((rv_up_n (by decide)).trans ((rv_up_n (by decide)).trans ((rv_up_n (by decide)).trans (rv_up_s)))))))), (rv_up_n (by decide)).trans ((rv_up_n (by decide)).trans ((rv_up_n (by decide)).trans ((rv_up_n (by decide)).trans ((rv_up_n (by decide)).trans ((rv_up_n (by decide)).trans ((rv_up_n (by decide)).trans (rv_up_s))))))), (rv_up_n (by decide)).trans ((rv_up_n (by decide)).trans ((rv_up_n (by decide)).trans ((rv_up_n (by decide)).trans ((rv_up_n (by decide)).trans ((rv_up_n (by decide)).trans (rv_up_s)))))), (rv_up_n (by decide)).trans ((rv_up_n (by decide)).trans ((rv_up_n (by decide)).trans ((rv_up_n (by decide)).trans ((rv_up_n (by decide)).trans (rv_up_s))))), (rv_up_n (by decide)).trans ((rv_up_n (by decide)).trans ((rv_up_n (by decide)).trans ((rv_up_n (by decide)).trans (rv_up_s)))), (rv_up_n (by decide)).trans ((rv_up_n (by decide)).trans ((rv_up_n (by decide)).trans (rv_up_s))), (rv_up_n (by decide)).trans ((rv_up_n (by decide)).trans (rv_up_s)), (rv_up_n (by decide)).trans (rv_up_s), rv_up_s⟩)
/-- where CONTRACTS lie -/
def rv_D (G : mj_G) (M : mj_M) (dl fa sa ca : Nat) : Prop := G dl = (1002, 0) ∧ G fa = (16100, 12) ∧ G sa = (17100, 12) ∧ G ca = (18100, 12) ∧ M.2.2 dl 0 = some fa ∧ M.2.2 dl 1 = some sa ∧ M.2.2 dl 2 = some ca
theorem r_clr_d {G : mj_G} {M0 : mj_M} {dl fa sa ca : Nat} {d : Nat} {Q : mj_P} (hD : rv_D G M0 dl fa sa ca) : ∀ (f k : Nat) (M : mj_M) (cb sb : Nat), k + f = 12 → M.2 = M0.2 → (∀ a, a ≠ dl → a ≠ fa → a ≠ sa → a ≠ ca → M.1 a = M0.1 a) → (∀ j, j < k → M.1 fa j = -1 ∧ M.1 sa j = -1 ∧ M.1 ca j = 0) → (∀ M', M'.2 = M0.2 → (∀ a, a ≠ dl → a ≠ fa → a ≠ sa → a ≠ ca → M'.1 a = M0.1 a) → (∀ j, j < 12 → M'.1 fa j = -1 ∧ M'.1 sa j = -1 ∧ M'.1 ca j = 0) → wz d mt_X1_clear.2.2.2.2.1 Q (mt_X1_clear.2.2.2.2.1.drop 22) [some (.inr (.inr (some dl))), some (.inl 12)] [] G M' cb sb) → wz d mt_X1_clear.2.2.2.2.1 Q (mt_X1_clear.2.2.2.2.1.drop 2) [some (.inr (.inr (some dl))), some (.inl (k : Int))] [] G M cb sb := by
  obtain ⟨gd, gf, gs, gc, e1, e2, e3⟩ := hD
  have n1 : fa ≠ sa := hn_ne gf gs (by decide)
  have n2 : fa ≠ ca := hn_ne gf gc (by decide)
  have n3 : sa ≠ ca := hn_ne gs gc (by decide)
  intro f
  induction f with
  | zero =>
    intro k M cb sb hk h2 h1 hz kk
    have e : k = 12 := by omega
    subst e
    refine w_iln rfl ?_
    refine w_bp ?_
    refine w_cmge (fun c => ?_) (fun c => by exfalso; omega)
    exact kk M h2 h1 hz
  | succ f ih =>
    intro k M cb sb hk h2 h1 hz kk
    refine w_iln rfl ?_
    refine w_bp ?_
    refine w_cmge (fun c => by exfalso; omega) (fun c => ?_)
    refine w_aln rfl ?_
    refine w_gr gd rfl (by decide) rfl (by rw [h2]; exact e1) ?_
    refine w_iln rfl ?_
    refine w_ic ?_
    refine w_iast gf rfl (by decide) (by omega) (by show (k : Int) < ((12 : Nat) : Int); omega) ?_
    refine w_aln rfl ?_
    refine w_gr gd rfl (by decide) rfl (by show M.2.2 dl 1 = _; rw [h2]; exact e2) ?_
    refine w_iln rfl ?_
    refine w_ic ?_
    refine w_iast gs rfl (by decide) (by omega) (by show (k : Int) < ((12 : Nat) : Int); omega) ?_
    refine w_aln rfl ?_
    refine w_gr gd rfl (by decide) rfl (by show M.2.2 dl 2 = _; rw [h2]; exact e3) ?_
    refine w_iln rfl ?_
    refine w_ic ?_
    refine w_iast gc rfl (by decide) (by omega) (by show (k : Int) < ((12 : Nat) : Int); omega) ?_
    refine w_ii rfl ⟨by omega, by omega⟩ ?_
    refine w_goto ?_
    refine ih (k + 1) _ _ _ (by omega) h2 (fun a a1 a2 a3 a4 => (wz_c a4).trans ((wz_c a3).trans ((wz_c a2).trans (h1 a a1 a2 a3 a4)))) (fun j hj => ?_) kk
    rw [show ((k : Int)).toNat = k by omega]
    rcases Nat.lt_or_ge j k with q | q
    · have nk : j ≠ k := by omega
      obtain ⟨z1, z2, z3⟩ := hz j q
      exact ⟨(hn_n (Or.inr nk)).trans ((hn_n (Or.inr nk)).trans ((hn_n (Or.inr nk)).trans z1)), (hn_n (Or.inr nk)).trans ((hn_n (Or.inr nk)).trans ((hn_n (Or.inr nk)).trans z2)), (hn_n (Or.inr nk)).trans ((hn_n (Or.inr nk)).trans ((hn_n (Or.inr nk)).trans z3))⟩
    · rw [show j = k by omega]
      exact ⟨(hn_n (Or.inl n2)).trans ((hn_n (Or.inl n1)).trans hn_s), (hn_n (Or.inl n3)).trans hn_s, hn_s⟩
theorem r_X1_clear {G : mj_G} {M : mj_M} {dl fa sa ca : Nat} {d : Nat} {Q : mj_P} (hD : rv_D G M dl fa sa ca) (hQ : ∀ M', M'.2 = M.2 → (∀ a, a ≠ dl → a ≠ fa → a ≠ sa → a ≠ ca → M'.1 a = M.1 a) → (∀ j, j < 12 → M'.1 fa j = -1 ∧ M'.1 sa j = -1 ∧ M'.1 ca j = 0) → M'.1 dl 3 = 0 → Q none G M') : mj_R mj_tab (d + 1) 17 [.inr (.inr (some dl))] G M Q := by
  obtain ⟨gd, gf, gs, gc, -⟩ := id hD
  refine ⟨Nat.le_of_ble_eq_true rfl, ?_⟩
  show wz d mt_X1_clear.2.2.2.2.1 Q mt_X1_clear.2.2.2.2.1 [some (.inr (.inr (some dl))), none] [] G M _ _
  refine w_ic ?_
  refine w_isn ?_
  refine r_clr_d hD 12 0 M _ _ (by omega) rfl (fun _ _ _ _ _ => rfl) (fun j hj => absurd hj (Nat.not_lt_zero j)) (fun M' h2 h1 hz => ?_)
  refine w_aln rfl ?_
  refine w_ic ?_
  refine w_pi gd rfl (by decide) rfl (fun q => by cases q) ?_
  refine w_ret (hQ _ h2 (fun a a1 a2 a3 a4 => (wz_c a1).trans (h1 a a1 a2 a3 a4)) (fun j hj => ?_) hn_s)
  obtain ⟨z1, z2, z3⟩ := hz j hj
  exact ⟨(hn_n (Or.inl (hn_ne gf gd (by decide)))).trans z1, (hn_n (Or.inl (hn_ne gs gd (by decide)))).trans z2, (hn_n (Or.inl (hn_ne gc gd (by decide)))).trans z3⟩
