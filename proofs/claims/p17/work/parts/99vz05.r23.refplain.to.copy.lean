section
/-! ===== the reference's plain (laid by a program) ===== -/
theorem rv_bt_00 (k j : Nat) (hk : k < 32) (hj : j < 32) : rv_bt 0 (k : Int) = rv_bt 0 (j : Int) := by
  have h : ∀ i : Fin 32, rv_bt 0 (i.val : Int) = 0 := by decide +kernel
  rw [h ⟨k, hk⟩, h ⟨j, hj⟩]
def rv_R0 (M0 : mj_M) (n lim m bt ha hd ns rs sx : Nat) (q : Nat) (PL WA OA : Nat → Int) (TO BI : Nat → Nat → Int) (nm : Nat → List Int) (b g z r : Int) (M : mj_M) : Prop :=
  (M.1 m 3 = (n : Int) ∧ M.1 m 5 = (lim : Int) ∧ M.1 m 21 = PL 5 ∧ M.1 m 22 = PL 11 ∧ (∀ k : Nat, k < 3 → rv_bt (M.1 m 20) (k : Int) = PL (12 + k)) ∧ M.1 m 18 = g ∧ M.1 m 24 = z ∧ M.1 m 19 = r) ∧ M.1 m 4 = (q : Int) ∧ rv_H (M.1 ha) PL WA TO BI ∧ (∀ s k : Nat, s < 4 → k < 8 → rv_bt (M.1 hd s) (k : Int) = rv_bt (OA k) ((s + 4 : Nat) : Int)) ∧ (∀ k : Nat, (k : Int) < b → M.2.1 ns (8 + k) = rv_8 (nm k) ∧ rv_wo (nm k)) ∧ M.2.2 = M0.2.2 ∧ M.2.1 rs = M0.2.1 rs ∧ M.1 bt = M0.1 bt ∧ rv_sw M0 sx m ha M
theorem r_nxt0 {G : mj_G} {M0 M : mj_M} {B : Nat → Int} {n lim m bt ha hd ns rs sx : Nat} {PL WA OA : Nat → Int} {TO BI : Nat → Nat → Int} {nm : Nat → List Int} {b g z r : Int} {d q : Nat} {Q : mj_P} (hB : rv_B G M0 B n lim m bt ha hd ns rs sx) (h : rv_R0 M0 n lim m bt ha hd ns rs sx q PL WA OA TO BI nm b g z r M) (hq : q ≤ n) (hQ : ∀ M', rv_R M0 n lim m bt ha hd ns rs sx (rv_T B n lim q) PL WA OA TO BI nm b g z r M' → Q none G M') : mj_R mj_tab (d + 2) 216 [.inr (.inr (some m))] G M Q := by
  obtain ⟨gm, gbt, gha, ghd, gns, grs, r1, r7, r23, r9, r10, rb, rr, n1, n2, gsx, r6⟩ := hB
  obtain ⟨⟨h3, h5, h21, h22, h20, h18, h24, h19⟩, ht, hh, hd1, hn, e1, e2, e3, e4⟩ := h
  refine r_X12_next (d := d) (B := B) (n := n) (lim := lim) (p := q) gm gbt n1 (by rw [e1]; exact r1) h3 h5 ht (fun k => by rw [e3]; exact rb k) (fun M' hM => hQ M' ?_)
  obtain ⟨o1, o2, o3, -⟩ := id hM
  have oc : ∀ a, a ≠ m → M'.1 a = M.1 a := fun a ha => funext fun k => o1 a k (fun e => ha e.1)
  have om : ∀ k, ¬ k ∈ [4, 11, 12, 13, 14] → M'.1 m k = M.1 m k := fun k hk => o1 m k (fun e => hk e.2)
  have ol : ∀ a, a ≠ m → M'.2.1 a = M.2.1 a := fun a ha => funext fun k => o2 a k (fun e => ha e.1)
  refine ⟨⟨(om 3 (by decide)).trans h3, (om 5 (by decide)).trans h5, (om 21 (by decide)).trans h21, (om 22 (by decide)).trans h22, fun k hk => by rw [om 20 (by decide)]; exact h20 k hk, (om 18 (by decide)).trans h18, (om 24 (by decide)).trans h24, (om 19 (by decide)).trans h19⟩, rv_tq_of (rv_T_w hq).1 (rv_nx_T hq hM), by rw [oc ha (hn_ne gha gm (by decide))]; exact hh, fun s k a c => by rw [oc hd (hn_ne ghd gm (by decide))]; exact hd1 s k a c, fun k hk => ⟨(congrFun (ol ns (hn_ne gns gm (by decide))) _).trans (hn k hk).1, (hn k hk).2⟩, o3.trans e1, (ol rs (hn_ne grs gm (by decide))).trans e2, (oc bt (hn_ne gbt gm (by decide))).trans e3, e4.c oc om ol (hn_ne gsx gm (by decide)) (hn_ne gha gm (by decide))⟩
theorem r_zhd {G : mj_G} {M0 : mj_M} {m hd : Nat} {d : Nat} {Q : mj_P} (gm : G m = (1012, 0)) (gc : G hd = (56100, 4)) (e0 : M0.2.2 m 23 = some hd) : ∀ (f k : Nat) (M : mj_M) (cb sb : Nat), k + f = 4 → M.2 = M0.2 → (∀ a, a ≠ hd → M.1 a = M0.1 a) → (∀ j, j < k → M.1 hd j = 0) → (∀ M', M'.2 = M0.2 → (∀ a, a ≠ hd → M'.1 a = M0.1 a) → (∀ j, j < 4 → M'.1 hd j = 0) → wz d mt_X12_plain.2.2.2.2.1 Q (mt_X12_plain.2.2.2.2.1.drop 33) [some (.inr (.inr (some m))), some (.inl 4)] [] G M' cb sb) → wz d mt_X12_plain.2.2.2.2.1 Q (mt_X12_plain.2.2.2.2.1.drop 23) [some (.inr (.inr (some m))), some (.inl (k : Int))] [] G M cb sb := by
  intro f
  induction f with
  | zero =>
    intro k M cb sb hk h2 h1 hz kk
    have e : k = 4 := by omega
    subst e
    refine w_iln rfl ?_
    refine w_ic ?_
    refine w_cmge (fun c => ?_) (fun c => by exfalso; omega)
    exact kk M h2 h1 hz
  | succ f ih =>
    intro k M cb sb hk h2 h1 hz kk
    refine w_iln rfl ?_
    refine w_ic ?_
    refine w_cmge (fun c => by exfalso; omega) (fun c => ?_)
    refine w_aln rfl ?_
    refine w_gr gm rfl (by decide) rfl (by rw [h2]; exact e0) ?_
    refine w_iln rfl ?_
    refine w_ic ?_
    refine w_iast gc rfl (by decide) (by omega) (by show (k : Int) < ((4 : Nat) : Int); omega) ?_
    refine w_ii rfl ⟨by omega, by omega⟩ ?_
    refine w_goto ?_
    refine ih (k + 1) _ _ _ (by omega) h2 (fun a a1 => (wz_c a1).trans (h1 a a1)) (fun j hj => ?_) kk
    rw [show ((k : Int)).toNat = k by omega]
    rcases Nat.lt_or_ge j k with q | q
    · exact (hn_n (Or.inr (by omega))).trans (hz j q)
    · rw [show j = k by omega]; exact hn_s
theorem r_zha {G : mj_G} {M0 : mj_M} {m ha : Nat} {d : Nat} {Q : mj_P} (gm : G m = (1012, 0)) (gc : G ha = (52100, 221)) (e0 : M0.2.2 m 7 = some ha) : ∀ (f k : Nat) (M : mj_M) (cb sb : Nat), k + f = 221 → M.2 = M0.2 → (∀ a, a ≠ ha → M.1 a = M0.1 a) → (∀ j, j < k → M.1 ha j = 0) → (∀ M', M'.2 = M0.2 → (∀ a, a ≠ ha → M'.1 a = M0.1 a) → (∀ j, j < 221 → M'.1 ha j = 0) → wz d mt_X12_plain.2.2.2.2.1 Q (mt_X12_plain.2.2.2.2.1.drop 45) [some (.inr (.inr (some m))), some (.inl 221)] [] G M' cb sb) → wz d mt_X12_plain.2.2.2.2.1 Q (mt_X12_plain.2.2.2.2.1.drop 35) [some (.inr (.inr (some m))), some (.inl (k : Int))] [] G M cb sb := by
  intro f
  induction f with
  | zero =>
    intro k M cb sb hk h2 h1 hz kk
    have e : k = 221 := by omega
    subst e
    refine w_iln rfl ?_
    refine w_sp ?_
    refine w_cmge (fun c => ?_) (fun c => by exfalso; omega)
    exact kk M h2 h1 hz
  | succ f ih =>
    intro k M cb sb hk h2 h1 hz kk
    refine w_iln rfl ?_
    refine w_sp ?_
    refine w_cmge (fun c => by exfalso; omega) (fun c => ?_)
    refine w_aln rfl ?_
    refine w_gr gm rfl (by decide) rfl (by rw [h2]; exact e0) ?_
    refine w_iln rfl ?_
    refine w_ic ?_
    refine w_iast gc rfl (by decide) (by omega) (by show (k : Int) < ((221 : Nat) : Int); omega) ?_
    refine w_ii rfl ⟨by omega, by omega⟩ ?_
    refine w_goto ?_
    refine ih (k + 1) _ _ _ (by omega) h2 (fun a a1 => (wz_c a1).trans (h1 a a1)) (fun j hj => ?_) kk
    rw [show ((k : Int)).toNat = k by omega]
    rcases Nat.lt_or_ge j k with q | q
    · exact (hn_n (Or.inr (by omega))).trans (hz j q)
    · rw [show j = k by omega]; exact hn_s
theorem rv_H.cg {H H' PL WA : Nat → Int} {TO BI : Nat → Nat → Int} (h : rv_H H PL WA TO BI) (e : ∀ k, k < 221 → H' k = H k) : rv_H H' PL WA TO BI := by
  obtain ⟨a0, a1, a2, a3, a4, a5, a6⟩ := h
  exact ⟨(e 0 (by decide)).trans a0, (e 1 (by decide)).trans a1, (e 2 (by decide)).trans a2, (e 3 (by decide)).trans a3, fun t w ht hw => (e _ (by omega)).trans (a4 t w ht hw), fun w hw => (e _ (by omega)).trans (a5 w hw), fun t w ht hw => ⟨(e _ (by omega)).trans (a6 t w ht hw).1, (a6 t w ht hw).2⟩⟩
theorem r_cps {G : mj_G} {M0 : mj_M} {m ha sx : Nat} {d : Nat} {Q : mj_P} (gm : G m = (1012, 0)) (gh : G ha = (52100, 221)) (gs : G sx = (51100, 537)) (e6 : M0.2.2 m 6 = some sx) (e7 : M0.2.2 m 7 = some ha) : ∀ (f k : Nat) (M : mj_M) (cb sb : Nat), k + f = 537 → M.2 = M0.2 → (∀ a, a ≠ sx → M.1 a = M0.1 a) → (∀ j, j < k → j < 221 → M.1 sx j = M0.1 ha j) → (∀ j, j < k → 221 ≤ j → M.1 sx j = 0) → (∀ M', M'.2 = M0.2 → (∀ a, a ≠ sx → M'.1 a = M0.1 a) → (∀ j, j < 221 → M'.1 sx j = M0.1 ha j) → (∀ j, j < 537 → 221 ≤ j → M'.1 sx j = 0) → wz d mt_X12_plain.2.2.2.2.1 Q (mt_X12_plain.2.2.2.2.1.drop 94) [some (.inr (.inr (some m))), some (.inl 537)] [] G M' cb sb) → wz d mt_X12_plain.2.2.2.2.1 Q (mt_X12_plain.2.2.2.2.1.drop 76) [some (.inr (.inr (some m))), some (.inl (k : Int))] [] G M cb sb := by
  have ns : ha ≠ sx := hn_ne gh gs (by decide)
  intro f
  induction f with
  | zero =>
    intro k M cb sb hk h2 h1 h3 h4 kk
    have e : k = 537 := by omega
    subst e
    refine w_iln rfl ?_
    refine w_sp ?_
    refine w_cmge (fun c => ?_) (fun c => by exfalso; omega)
    exact kk M h2 h1 (fun j hj => h3 j (by omega) hj) h4
  | succ f ih =>
    intro k M cb sb hk h2 h1 h3 h4 kk
    refine w_iln rfl ?_
    refine w_sp ?_
    refine w_cmge (fun c => by exfalso; omega) (fun c => ?_)
    refine w_aln rfl ?_
    refine w_gr gm rfl (by decide) rfl (by rw [h2]; exact e6) ?_
    refine w_iln rfl ?_
    refine w_iln rfl ?_
    refine w_sp ?_
    have tk : ((k : Int)).toNat = k := by omega
    refine w_cmge (fun c2 => ?_) (fun c2 => ?_)
    · refine w_ic ?_
      refine w_iast gs rfl (by decide) (by omega) (by show (k : Int) < ((537 : Nat) : Int); omega) ?_
      refine w_ii rfl ⟨by omega, by omega⟩ ?_
      refine w_goto ?_
      rw [tk]
      refine ih (k + 1) _ _ _ (by omega) h2 (fun a a1 => (wz_c a1).trans (h1 a a1)) (fun j hj h => (hn_n (Or.inr (by omega))).trans (h3 j (by omega) h)) (fun j hj h => ?_) kk
      rcases Nat.lt_or_ge j k with q | q
      · exact (hn_n (Or.inr (by omega))).trans (h4 j q h)
      · rw [show j = k by omega]; exact hn_s
    · refine w_aln rfl ?_
      refine w_gr gm rfl (by decide) rfl (by rw [h2]; exact e7) ?_
      refine w_iln rfl ?_
      refine w_iald (v := M0.1 ha k) gh rfl (by omega) (by show (k : Int) < ((221 : Nat) : Int); omega) (by rw [tk, h1 ha ns]) ?_
      refine w_goto ?_
      refine w_iast gs rfl (by decide) (by omega) (by show (k : Int) < ((537 : Nat) : Int); omega) ?_
      refine w_ii rfl ⟨by omega, by omega⟩ ?_
      refine w_goto ?_
      rw [tk]
      refine ih (k + 1) _ _ _ (by omega) h2 (fun a a1 => (wz_c a1).trans (h1 a a1)) (fun j hj h => ?_) (fun j hj h => (hn_n (Or.inr (by omega))).trans (h4 j (by omega) h)) kk
      rcases Nat.lt_or_ge j k with q | q
      · exact (hn_n (Or.inr (by omega))).trans (h3 j q h)
      · rw [show j = k by omega]; exact hn_s
theorem r_cpn {G : mj_G} {M0 : mj_M} {m ns : Nat} {d : Nat} {Q : mj_P} (gm : G m = (1012, 0)) (gn : G ns = (54103, 16)) (e9 : M0.2.2 m 9 = some ns) : ∀ (f k : Nat) (M : mj_M) (cb sb : Nat), k + f = 8 → M.1 = M0.1 → M.2.2 = M0.2.2 → (∀ a, a ≠ ns → M.2.1 a = M0.2.1 a) → (∀ j, j < k → M.2.1 ns j = M0.2.1 ns (8 + j)) → (∀ j, 8 ≤ j → M.2.1 ns j = M0.2.1 ns j) → (∀ M', M'.1 = M0.1 → M'.2.2 = M0.2.2 → (∀ a, a ≠ ns → M'.2.1 a = M0.2.1 a) → (∀ j, j < 8 → M'.2.1 ns j = M0.2.1 ns (8 + j)) → wz d mt_X12_plain.2.2.2.2.1 Q (mt_X12_plain.2.2.2.2.1.drop 111) [some (.inr (.inr (some m))), some (.inl 8)] [] G M' cb sb) → wz d mt_X12_plain.2.2.2.2.1 Q (mt_X12_plain.2.2.2.2.1.drop 96) [some (.inr (.inr (some m))), some (.inl (k : Int))] [] G M cb sb := by
  intro f
  induction f with
  | zero =>
    intro k M cb sb hk h1 h2 h3 h4 h5 kk
    have e : k = 8 := by omega
    subst e
    refine w_iln rfl ?_
    refine w_bp ?_
    refine w_cmge (fun c => ?_) (fun c => by exfalso; omega)
    exact kk M h1 h2 h3 h4
  | succ f ih =>
    intro k M cb sb hk h1 h2 h3 h4 h5 kk
    have tk : ((k : Int)).toNat = k := by omega
    refine w_iln rfl ?_
    refine w_bp ?_
    refine w_cmge (fun c => by exfalso; omega) (fun c => ?_)
    refine w_aln rfl ?_
    refine w_gr gm rfl (by decide) rfl (by rw [h2]; exact e9) ?_
    refine w_iln rfl ?_
    refine w_aln rfl ?_
    refine w_gr gm rfl (by decide) rfl (by rw [h2]; exact e9) ?_
    refine w_bp ?_
    refine w_iln rfl ?_
    refine w_add ⟨by omega, by omega⟩ ?_
    refine w_lald (v := M0.2.1 ns (8 + k)) gn rfl (by omega) (by show (8 : Int) + (k : Int) < ((16 : Nat) : Int); omega) (by rw [show ((8 : Int) + (k : Int)).toNat = 8 + k by omega]; exact h5 _ (by omega)) ?_
    refine w_last gn rfl (by decide) (by omega) (by show (k : Int) < ((16 : Nat) : Int); omega) ?_
    refine w_ii rfl ⟨by omega, by omega⟩ ?_
    refine w_goto ?_
    rw [tk]
    refine ih (k + 1) _ _ _ (by omega) h1 h2 (fun a ha => (funext fun j => wz_nl (Or.inl ha)).trans (h3 a ha)) (fun j hj => ?_) (fun j hj => (wz_nl (Or.inr (by omega))).trans (h5 j hj)) kk
    rcases Nat.lt_or_ge j k with q | q
    · exact (wz_nl (Or.inr (by omega))).trans (h4 j q)
    · rw [show j = k by omega]; exact wz_sl
/-- the reference's state behind a plain() that reads a PLAIN -/
def rv_QO (sx ns : Nat) (PL WA : Nat → Int) (TO BI : Nat → Nat → Int) (nm : Nat → List Int) (M' : mj_M) : Prop := rv_H (M'.1 sx) PL WA TO BI ∧ (∀ k : Nat, (k : Int) < PL 4 → M'.2.1 ns k = rv_8 (nm k) ∧ rv_wo (nm k)) ∧ (∀ j, j < 537 → 184 ≤ j → M'.1 sx j = 0)
/-- what plain that reads tells beside: longs, the PLAIN's number -/
def rv_QX (M0 : mj_M) (m ns : Nat) (M' : mj_M) : Prop := (∀ a, a ≠ m → a ≠ ns → M'.2.1 a = M0.2.1 a) ∧ M'.1 m 26 = (Int32.ofInt (M0.1 m 26) + Int32.ofInt 1).toInt ∧ M'.1 m 25 = (Int32.ofInt (M0.1 m 26) + Int32.ofInt 1).toInt
theorem r_plE {G : mj_G} {M : mj_M} {m ha sx ns : Nat} {d : Nat} {Q : mj_P} {r : Int} {v1 : Option mj_V} {PL WA : Nat → Int} {TO BI : Nat → Nat → Int} {nm : Nat → List Int} (gm : G m = (1012, 0)) (gh : G ha = (52100, 221)) (gs : G sx = (51100, 537)) (gn : G ns = (54103, 16)) (e6 : M.2.2 m 6 = some sx) (e7 : M.2.2 m 7 = some ha) (e9 : M.2.2 m 9 = some ns) (hr : M.1 m 19 = r) (hH : rv_H (M.1 ha) PL WA TO BI) (hp : PL 4 ≤ 8) (hN : ∀ k : Nat, (k : Int) < PL 4 → M.2.1 ns (8 + k) = rv_8 (nm k) ∧ rv_wo (nm k)) (hz0 : ∀ j, 184 ≤ j → j < 221 → M.1 ha j = 0) (hQ : ∀ M', rv_QO sx ns PL WA TO BI nm M' → M'.1 m 28 = 0 ∧ rv_QX M m ns M' → Q (some (.inl r)) G M') (cb sb : Nat) : wz d mt_X12_plain.2.2.2.2.1 Q (mt_X12_plain.2.2.2.2.1.drop 74) [some (.inr (.inr (some m))), some (.inl 221)] [] G M cb sb := by
  refine w_ic ?_
  refine w_isn ?_
  refine r_cps gm gh gs e6 e7 537 0 M _ _ (by omega) rfl (fun _ _ => rfl) (fun j hj => absurd hj (Nat.not_lt_zero j)) (fun j hj => absurd hj (Nat.not_lt_zero j)) (fun M1 h2 h1 h3 h4 => ?_)
  refine w_ic ?_
  refine w_isn ?_
  refine r_cpn (M0 := M1) gm gn (by rw [h2]; exact e9) 8 0 M1 _ _ (by omega) rfl rfl (fun _ _ => rfl) (fun j hj => absurd hj (Nat.not_lt_zero j)) (fun _ _ => rfl) (fun M2 g1 g2 g3 g4 => ?_)
  refine w_aln rfl ?_
  refine w_ic ?_
  refine w_pi gm rfl (by decide) rfl (fun q => by cases q) ?_
  refine w_aln rfl ?_
  refine w_dupr ?_
  refine w_gi gm rfl (by decide) rfl rfl ?_
  refine w_ic ?_
  refine w_addw ?_
  intro z hz ez
  refine w_pi gm rfl (by decide) rfl (fun q => by cases q) ?_
  refine w_aln rfl ?_
  refine w_aln rfl ?_
  refine w_gi gm rfl (by decide) rfl rfl ?_
  refine w_pi gm rfl (by decide) rfl (fun q => by cases q) ?_
  refine w_aln rfl ?_
  refine w_gi gm rfl (by decide) rfl (v := r) ((hn_n (Or.inr (by decide))).trans ((hn_n (Or.inr (by decide))).trans ((hn_n (Or.inr (by decide))).trans (by rw [g1, h1 m (hn_ne gm gs (by decide))]; exact hr)))) ?_
  have sn : sx ≠ m := hn_ne gs gm (by decide)
  refine w_iret (fun q => by cases q) (hQ _ ⟨hH.cg (fun k hk => ?_), fun k hk => ⟨?_, (hN k hk).2⟩, fun j hj h => ?_⟩ ⟨(hn_n (Or.inr (by decide))).trans ((hn_n (Or.inr (by decide))).trans hn_s), ?_, ?_, ?_⟩)
  · exact (hn_n (Or.inl sn)).trans ((hn_n (Or.inl sn)).trans ((hn_n (Or.inl sn)).trans (by rw [g1]; exact h3 k hk)))
  · show M2.2.1 ns k = _
    rw [g4 k (by omega), h2]; exact (hN k hk).1
  · exact (hn_n (Or.inl sn)).trans ((hn_n (Or.inl sn)).trans ((hn_n (Or.inl sn)).trans (by
      rw [g1]
      rcases Nat.lt_or_ge j 221 with q | q
      · rw [h3 j q]; exact hz0 j h q
      · exact h4 j hj q)))
  · intro a a1 a2
    show M2.2.1 a = _
    rw [g3 a a2, h2]
  · refine (hn_n (Or.inr (by decide))).trans (hn_s.trans (ez.trans ?_))
    rw [show (mj_p0 M2 m 28 0).1 m 26 = M.1 m 26 from (hn_n (Or.inr (by decide))).trans (by rw [g1, h1 m (hn_ne gm gs (by decide))])]
  · refine hn_s.trans ?_
    refine hn_s.trans (ez.trans ?_)
    rw [show (mj_p0 M2 m 28 0).1 m 26 = M.1 m 26 from (hn_n (Or.inr (by decide))).trans (by rw [g1, h1 m (hn_ne gm gs (by decide))])]
theorem r_rowsR {G : mj_G} {M0 : mj_M} {B : Nat → Int} {n lim m bt ha hd ns rs sx : Nat} {T : Nat → Nat × Nat × Int × List Int × Nat} {Q : mj_P} {d : Nat} (hB : rv_BT G M0 B n lim m bt ha hd ns rs sx T) : ∀ (f q r : Nat) (PL WA OA : Nat → Int) (TO BI : Nat → Nat → Int) (nm : Nat → List Int) (g z : Int) (M : mj_M) (cb sb : Nat), n < q + f → q ≤ n → r ≤ q → rv_pb PL → rv_R M0 n lim m bt ha hd ns rs sx (T q) PL WA OA TO BI nm (PL 4) g z (r : Int) M → sp_rows T (fun f a => ∀ M', rv_sw M0 sx m ha M' → Q (some (.inl (rv_vf a))) G M') (fun PL WA OA TO BI nm r => ∀ M', rv_QO sx ns PL WA TO BI nm M' → M'.1 m 28 = 0 ∧ rv_QX M0 m ns M' → Q (some (.inl (r : Int))) G M') f PL WA OA TO BI nm r q → wz (d + 6) mt_X12_plain.2.2.2.2.1 Q (mt_X12_plain.2.2.2.2.1.drop 52) [some (.inr (.inr (some m))), some (.inl 221)] [] G M cb sb := by
  obtain ⟨⟨gm, gbt, gha, ghd, gns, grs, r1, r7, r23, r9, r10, rb, rr, n1, n2, gsx, r6⟩, hT⟩ := id hB
  intro f
  induction f with
  | zero => intro q r PL WA OA TO BI nm g z M cb sb g1 g2 g3; exfalso; omega
  | succ f ih =>
    intro q r PL WA OA TO BI nm g z M cb sb g1 g2 g3 hb hS h
    obtain ⟨h0, h5, hr⟩ := h
    have hw := rv_y_w hB g2
    have hk := rv_tkc_f hw.1
    have bad : ∀ (M1 : mj_M) (f : Int) (a cb sb : Nat), rv_FR M0 m sx ha f a M1 → (∀ M', rv_sw M0 sx m ha M' → Q (some (.inl (rv_vf a))) G M') → wz (d + 6) mt_X12_plain.2.2.2.2.1 Q (mt_X12_plain.2.2.2.2.1.drop 62) [some (.inr (.inr (some m))), some (.inl 221)] [] G M1 cb sb := by
      intro M1 f a cb sb hF hQ
      refine w_ic ?_
      refine w_aln rfl ?_
      refine w_gi gm rfl (by decide) rfl hF.2.1 ?_
      refine w_subw ?_
      intro y hy ey
      have ev : y = rv_vf a := ey
      refine w_iret (fun q => by cases q) ?_
      rw [ev]
      exact hQ _ hF.2.2
    refine w_aln rfl ?_
    refine w_gi gm rfl (by decide) rfl hS.2.1.1 ?_
    refine w_ifeq (fun c => ?_) (fun c => ?_)
    · exact r_plE (v1 := none) gm gha gsx gns (by rw [hS.2.2.2.2.2.1]; exact r6) (by rw [hS.2.2.2.2.2.1]; exact r7) (by rw [hS.2.2.2.2.2.1]; exact r9) hS.1.2.2.2.2.2.2.2 hS.2.2.1 hb.2.1 hS.2.2.2.2.1 hS.2.2.2.2.2.2.2.2.2.2.1 (fun M' q1 q2 => h0 (by omega) M' q1 ⟨q2.1, fun a a1 a2 => (q2.2.1 a a1 a2).trans (funext fun j => hS.2.2.2.2.2.2.2.2.2.2.2 a j a1 (fun e => a2 (Option.some.inj (e.1.symm.trans r9)))), by rw [q2.2.2.1, hS.2.2.2.2.2.2.2.2.2.1 26 (by decide)], by rw [q2.2.2.2, hS.2.2.2.2.2.2.2.2.2.1 26 (by decide)]⟩) _ _
    · have e0 : (T q).1 ≠ 0 := by omega
      refine w_aln rfl ?_
      by_cases e5 : (T q).1 = 5
      · refine w_cv (st := []) rfl gm rfl (Nat.le_of_ble_eq_true rfl) (fun kk h => h) (r_rR_n (d := d) hB hS g2 hb (fun i hi g => by omega) (fun M1 F1 => ?_))
        refine w_ifeq (fun _ => ?_) (fun c => absurd rfl c)
        exact bad M1 _ _ _ _ F1 (h5 e5)
      · have hlt := hw.2.2.2.1 e0 e5
        have hle := hw.2.2.2.2.2
        refine w_cv (st := []) rfl gm rfl (Nat.le_of_ble_eq_true rfl) (fun kk h => h) (r_X12_row2 (d := d) hB hS g2 hb ((hr e0 e5).mono (fun f a hf M1 F1 => ?_) (fun PL1 WA1 OA1 TO1 BI1 nm1 q1 hk1 g4 g5 hb1 ga za M1 s1 => ?_)))
        · refine w_ifeq (fun _ => ?_) (fun c => absurd rfl c)
          exact bad M1 _ _ _ _ F1 hf
        · refine w_ifeq (fun c => absurd c (by decide)) (fun _ => ?_)
          refine w_aln rfl ?_
          refine w_bp ?_
          have g6 := rv_y_le hB g5
          have g7 := rv_y_ge hB g5
          refine w_cv (st := []) rfl gm rfl (Nat.le_of_ble_eq_true rfl) (fun kk h => h) (r_X12_sign2 (d := d + 3) hB s1 g6 (hk1.mono (fun f a hf M2 F2 => ?_) (fun e3 hk2 M2 s2 => ?_)))
          · refine w_ifne (fun c => absurd rfl c) (fun _ => ?_)
            exact bad M2 _ _ _ _ F2 hf
          · have g8 := (rv_y_w hB g6).2.2.2.1 (by omega) (by omega)
            have g9 := rv_y_le hB g6
            refine w_ifne (fun _ => ?_) (fun c => absurd c (by decide))
            refine w_aln rfl ?_
            refine w_dupr ?_
            refine w_gi gm rfl (by decide) rfl s2.1.2.2.2.2.2.2.2 ?_
            refine w_ic ?_
            refine w_add ⟨by omega, by omega⟩ ?_
            refine w_pi gm rfl (by decide) rfl (fun q => by cases q) ?_
            have s3 := s2.srow (v := (r : Int) + 1) hB.1
            refine w_goto ?_
            exact ih (rv_x T (rv_x T q1)) (r + 1) PL1 WA1 OA1 TO1 BI1 nm1 _ _ _ _ _ (by unfold rv_x at *; omega) g9 (by unfold rv_x at *; omega) hb1 s3 hk2
theorem r_X12_plain2 {G : mj_G} {M : mj_M} {B : Nat → Int} {n m bt ha hd ns rs sx : Nat} {T : Nat → Nat × Nat × Int × List Int × Nat} {Q : mj_P} {d : Nat} {PL WA OA : Nat → Int} {TO BI : Nat → Nat → Int} {NA : Nat → Int64} (hB : rv_BT G M B n 900 m bt ha hd ns rs sx T) (hn : M.1 m 2 = (n : Int)) (h0 : rv_0 PL WA OA TO BI NA) (h : sp_rows T (fun f a => ∀ M', rv_sw M sx m ha M' → Q (some (.inl (rv_vf a))) G M') (fun PL WA OA TO BI nm r => ∀ M', rv_QO sx ns PL WA TO BI nm M' → M'.1 m 28 = 0 ∧ rv_QX M m ns M' → Q (some (.inl (r : Int))) G M') (n + 1) PL WA OA TO BI (fun _ => []) 0 0) : mj_R mj_tab (d + 7) 226 [.inr (.inr (some m))] G M Q := by
  obtain ⟨⟨gm, gbt, gha, ghd, gns, grs, r1, r7, r23, r9, r10, rb, rr, n1, n2, gsx, r6⟩, hT⟩ := id hB
  refine ⟨Nat.le_of_ble_eq_true rfl, ?_⟩
  show wz (d + 6) mt_X12_plain.2.2.2.2.1 Q mt_X12_plain.2.2.2.2.1 [some (.inr (.inr (some m))), none] [] G M _ _
  refine w_aln rfl ?_
  refine w_ic ?_
  refine w_pi gm rfl (by decide) rfl (fun q => by cases q) ?_
  refine w_aln rfl ?_
  refine w_sp ?_
  refine w_cv (st := []) rfl gm rfl (Nat.le_of_ble_eq_true rfl) (fun kk h => h) ⟨Nat.le_of_ble_eq_true rfl, ?_⟩
  show wz (d + 5) mt_X12_taken.2.2.2.2.1 _ mt_X12_taken.2.2.2.2.1 [some (.inr (.inr (some m))), some (.inl 900)] [] _ _ _ _
  refine w_aln rfl ?_
  refine w_aln rfl ?_
  refine w_gi gm rfl (by decide) rfl (v := (n : Int)) ((hn_n (Or.inr (by decide))).trans hn) ?_
  refine w_pi gm rfl (by decide) rfl (fun q => by cases q) ?_
  refine w_aln rfl ?_
  refine w_ic ?_
  refine w_pi gm rfl (by decide) rfl (fun q => by cases q) ?_
  refine w_aln rfl ?_
  refine w_ic ?_
  refine w_pi gm rfl (by decide) rfl (fun q => by cases q) ?_
  refine w_aln rfl ?_
  refine w_iln rfl ?_
  refine w_pi gm rfl (by decide) rfl (fun q => by cases q) ?_
  refine w_ret ?_
  refine w_aln rfl ?_
  refine w_ic ?_
  refine w_pi gm rfl (by decide) rfl (fun q => by cases q) ?_
  refine w_aln rfl ?_
  refine w_ic ?_
  refine w_pi gm rfl (by decide) rfl (fun q => by cases q) ?_
  refine w_aln rfl ?_
  refine w_ic ?_
  refine w_pi gm rfl (by decide) rfl (fun q => by cases q) ?_
  refine w_aln rfl ?_
  refine w_ic ?_
  refine w_pi gm rfl (by decide) rfl (fun q => by cases q) ?_
  refine w_aln rfl ?_
  refine w_ic ?_
  refine w_pi gm rfl (by decide) rfl (fun q => by cases q) ?_
  have eo : ∀ a, a ≠ m → (mj_p0 (mj_p0 (mj_p0 (mj_p0 (mj_p0 (mj_p0 (mj_p0 (mj_p0 (mj_p0 (mj_p0 M m 0 0) m 3 (n : Int)) m 2 0) m 4 0) m 5 900) m 15 0) m 19 0) m 20 0) m 21 0) m 22 0).1 a = M.1 a := fun a ha => (wz_c ha).trans ((wz_c ha).trans ((wz_c ha).trans ((wz_c ha).trans ((wz_c ha).trans ((wz_c ha).trans ((wz_c ha).trans ((wz_c ha).trans ((wz_c ha).trans ((wz_c ha))))))))))
  refine w_ic ?_
  refine w_isn ?_
  refine r_zhd (M0 := (mj_p0 (mj_p0 (mj_p0 (mj_p0 (mj_p0 (mj_p0 (mj_p0 (mj_p0 (mj_p0 (mj_p0 M m 0 0) m 3 (n : Int)) m 2 0) m 4 0) m 5 900) m 15 0) m 19 0) m 20 0) m 21 0) m 22 0)) gm ghd r23 4 0 _ _ _ (by omega) rfl (fun _ _ => rfl) (fun j hj => absurd hj (Nat.not_lt_zero j)) (fun M1 h2 h1 z1 => ?_)
  refine w_ic ?_
  refine w_isn ?_
  refine r_zha (M0 := M1) gm gha (by rw [h2]; exact r7) 221 0 _ _ _ (by omega) rfl (fun _ _ => rfl) (fun j hj => absurd hj (Nat.not_lt_zero j)) (fun M2 k2 k1 z2 => ?_)
  refine w_aln rfl ?_
  refine w_gr gm rfl (by decide) rfl (by rw [k2, h2]; exact r7) ?_
  refine w_ic ?_
  refine w_ic ?_
  refine w_iast gha rfl (by decide) (by omega) (by show (3 : Int) < ((221 : Nat) : Int); omega) ?_
  refine w_aln rfl ?_
  have mm : ∀ j, (mj_p0 M2 ha ((3 : Int)).toNat 3).1 m j = (mj_p0 (mj_p0 (mj_p0 (mj_p0 (mj_p0 (mj_p0 (mj_p0 (mj_p0 (mj_p0 (mj_p0 M m 0 0) m 3 (n : Int)) m 2 0) m 4 0) m 5 900) m 15 0) m 19 0) m 20 0) m 21 0) m 22 0).1 m j := fun j => (hn_n (Or.inl (hn_ne gm gha (by decide)))).trans ((congrFun (k1 m (hn_ne gm gha (by decide))) j).trans (congrFun (h1 m (hn_ne gm ghd (by decide))) j))
  have eh : ∀ j, j < 221 → j ≠ 3 → (mj_p0 M2 ha ((3 : Int)).toNat 3).1 ha j = 0 := fun j hj h3 => (hn_n (Or.inr h3)).trans (z2 j hj)
  have ed : ∀ j, j < 4 → (mj_p0 M2 ha ((3 : Int)).toNat 3).1 hd j = 0 := fun j hj => (hn_n (Or.inl (hn_ne ghd gha (by decide)))).trans ((congrFun (k1 hd (hn_ne ghd gha (by decide))) j).trans (z1 j hj))
  have ebt : (mj_p0 M2 ha ((3 : Int)).toNat 3).1 bt = M.1 bt := (wz_c (hn_ne gbt gha (by decide))).trans ((k1 bt (hn_ne gbt gha (by decide))).trans ((h1 bt (hn_ne gbt ghd (by decide))).trans (eo bt (hn_ne gbt gm (by decide)))))
  have e22 : (mj_p0 M2 ha ((3 : Int)).toNat 3).2 = M.2 := k2.trans h2
  obtain ⟨w1, w2, w4, w5, w6, w7, w8, w11, w12, w13, w14⟩ := id h0
  have S0 : rv_R0 M n 900 m bt ha hd ns rs sx 0 PL WA OA TO BI (fun _ => []) (PL 4) ((mj_p0 M2 ha ((3 : Int)).toNat 3).1 m 18) ((mj_p0 M2 ha ((3 : Int)).toNat 3).1 m 24) ((0 : Nat) : Int) (mj_p0 M2 ha ((3 : Int)).toNat 3) := by
    refine ⟨⟨(mm 3).trans ((hn_n (Or.inr (by decide))).trans ((hn_n (Or.inr (by decide))).trans ((hn_n (Or.inr (by decide))).trans ((hn_n (Or.inr (by decide))).trans ((hn_n (Or.inr (by decide))).trans ((hn_n (Or.inr (by decide))).trans ((hn_n (Or.inr (by decide))).trans ((hn_n (Or.inr (by decide))).trans (hn_s))))))))), (mm 5).trans ((hn_n (Or.inr (by decide))).trans ((hn_n (Or.inr (by decide))).trans ((hn_n (Or.inr (by decide))).trans ((hn_n (Or.inr (by decide))).trans ((hn_n (Or.inr (by decide))).trans (hn_s)))))), ((mm 21).trans ((hn_n (Or.inr (by decide))).trans (hn_s))).trans w5.symm, ((mm 22).trans (hn_s)).trans w11.symm, fun k hk => ?_, rfl, rfl, (mm 19).trans ((hn_n (Or.inr (by decide))).trans ((hn_n (Or.inr (by decide))).trans ((hn_n (Or.inr (by decide))).trans (hn_s))))⟩, (mm 4).trans ((hn_n (Or.inr (by decide))).trans ((hn_n (Or.inr (by decide))).trans ((hn_n (Or.inr (by decide))).trans ((hn_n (Or.inr (by decide))).trans ((hn_n (Or.inr (by decide))).trans ((hn_n (Or.inr (by decide))).trans (hn_s))))))), ⟨(eh 0 (by decide) (by decide)).trans w4.symm, (eh 1 (by decide) (by decide)).trans w6.symm, (eh 2 (by decide) (by decide)).trans w7.symm, hn_s.trans w8.symm, fun t w ht hw => (eh _ (by omega) (by omega)).trans ((w1 t ht).2.2.1 w hw).symm, fun w hw => (eh _ (by omega) (by omega)).trans (w2 w hw).symm, fun t w ht hw => ⟨(eh _ (by omega) (by omega)).trans ((w1 t ht).2.2.2 w hw).symm, by rw [(w1 t ht).2.2.2 w hw]; decide⟩⟩, fun s k hs hk => by rw [ed s hs, (w1 k hk).2.1]; exact rv_bt_00 k (s + 4) (by omega) (by omega), fun k hk => by rw [w4] at hk; omega, congrArg Prod.snd e22, congrFun (congrArg Prod.fst e22) rs, ebt, ⟨(wz_c (hn_ne gsx gha (by decide))).trans ((k1 sx (hn_ne gsx gha (by decide))).trans ((h1 sx (hn_ne gsx ghd (by decide))).trans (eo sx (hn_ne gsx gm (by decide))))), fun j hj => (mm j).trans ((hn_n (Or.inr (by omega))).trans ((hn_n (Or.inr (by omega))).trans ((hn_n (Or.inr (by omega))).trans ((hn_n (Or.inr (by omega))).trans ((hn_n (Or.inr (by omega))).trans ((hn_n (Or.inr (by omega))).trans ((hn_n (Or.inr (by omega))).trans ((hn_n (Or.inr (by omega))).trans ((hn_n (Or.inr (by omega))).trans (hn_n (Or.inr (by omega)))))))))))), fun j h1 h2 => eh j h2 (by omega), fun a j _ _ => congrFun (congrFun (congrArg Prod.fst e22) a) j⟩⟩
    rw [mm 20, show (mj_p0 (mj_p0 (mj_p0 (mj_p0 (mj_p0 (mj_p0 (mj_p0 (mj_p0 (mj_p0 (mj_p0 M m 0 0) m 3 (n : Int)) m 2 0) m 4 0) m 5 900) m 15 0) m 19 0) m 20 0) m 21 0) m 22 0).1 m 20 = 0 from (hn_n (Or.inr (by decide))).trans ((hn_n (Or.inr (by decide))).trans (hn_s))]
    have : k = 0 ∨ k = 1 ∨ k = 2 := by omega
    rcases this with rfl | rfl | rfl
    · rw [w12]; decide
    · rw [w13]; decide
    · rw [w14]; decide
  refine w_cv (st := []) rfl gm rfl (Nat.le_of_ble_eq_true rfl) (fun kk h => h) (r_nxt0 (d := d + 4) hB.1 S0 (Nat.zero_le n) (fun M3 s3 => ?_))
  rw [← hB.2] at s3
  exact r_rowsR hB (n + 1) 0 0 PL WA OA TO BI _ _ _ M3 _ _ (by omega) (Nat.zero_le n) (Nat.le_refl 0) ⟨by rw [w4]; decide, by rw [w4]; decide, by rw [w5]; decide, by rw [w5]; decide⟩ s3 h
end
section
/-! ===== feed: what comes into the tapes (laid by a program) ===== -/
def rv_fd (f : Nat → Int) (n : Nat) (v : Int) : Nat → Int := fun k => if n ≤ k ∧ k < n + 4 then rv_b7 v (k - n) else f k
theorem rv_fd_of {f g : Nat → Int} {n : Nat} {v : Int} (h1 : ∀ j, j < 4 → g (n + j) = rv_b7 v j) (h2 : ∀ k, ¬ (n ≤ k ∧ k < n + 4) → g k = f k) : g = rv_fd f n v := funext fun k => by
  unfold rv_fd
  by_cases c : n ≤ k ∧ k < n + 4
  · rw [if_pos c, ← h1 (k - n) (by omega), show n + (k - n) = k by omega]
  · rw [if_neg c]; exact h2 k c
def rv_f5 (f : Nat → Int) (n : Nat) (a b c d e : Int) : Nat → Int := rv_fd (rv_fd (rv_fd (rv_fd (rv_fd f n a) (n + 4) b) (n + 8) c) (n + 12) d) (n + 16) e
theorem r_X11_feed2 {d x tp bc : Nat} {n : Nat} {a1 a2 a3 a4 a5 : Int} {G : mj_G} {M : mj_M} {Q : mj_P} (gx : G x = (1011, 0)) (go : G tp = (1008, 0)) (gb : G bc = (38101, 940)) (fx : M.2.2 x 0 = some tp) (fa : M.2.2 tp 0 = some bc) (fn : M.1 tp 1 = (n : Int)) (hn : n ≤ 940) (h1 : n ≤ 920 → ∀ z M', M'.1 bc = rv_f5 (M.1 bc) n a1 a2 a3 a4 a5 → Q (some (.inl z)) G M') (h0 : 920 < n → ∀ z M', M'.1 bc = M.1 bc → Q (some (.inl z)) G M') : mj_R mj_tab (d + 2) 124 [.inr (.inr (some x)), .inl a1, .inl a2, .inl a3, .inl a4, .inl a5] G M Q := by
  have ne : bc ≠ tp := hn_ne gb go (by decide)
  refine ⟨Nat.le_of_ble_eq_true rfl, ?_⟩
  show wz (d + 1) mt_X11_feed.2.2.2.2.1 Q mt_X11_feed.2.2.2.2.1 [some (.inr (.inr (some x))), some (.inl a1), some (.inl a2), some (.inl a3), some (.inl a4), some (.inl a5)] [] G M _ _
  refine w_aln rfl ?_
  refine w_gr gx rfl (by decide) rfl (fx) ?_
  refine w_cv (st := []) rfl go rfl (Nat.le_of_ble_eq_true rfl) (fun kk h => h) ⟨Nat.le_of_ble_eq_true rfl, ?_⟩
  show wz (d) mt_X7_hasRoom.2.2.2.2.1 _ mt_X7_hasRoom.2.2.2.2.1 [some (.inr (.inr (some tp)))] [] _ _ _ _
  refine w_aln rfl ?_
  refine w_gi go rfl (by decide) rfl (fn) ?_
  refine w_bp ?_
  refine w_add ⟨by show (-2147483648 : Int) ≤ ((n : Nat) : Int) + 20; omega, by show ((n : Nat) : Int) + 20 < (2147483648 : Int); omega⟩ ?_
  refine w_sp ?_
  refine w_cmgt (fun c1 => ?_) (fun c1 => ?_)
  · skip
    refine w_ic ?_
    refine w_iret (fun _ => Or.inl rfl) ?_
    refine w_ifne (fun c2 => ?_) (fun c2 => ?_)
    · exfalso; omega
    · skip
      refine w_ic ?_
      exact w_iret (fun q => by cases q) (h0 (by omega) _ _ rfl)
  · skip
    refine w_ic ?_
    refine w_goto ?_
    refine w_iret (fun _ => Or.inr rfl) ?_
    refine w_ifne (fun c3 => ?_) (fun c3 => ?_)
    · skip
      refine w_aln rfl ?_
      refine w_gr gx rfl (by decide) rfl (fx) ?_
      refine w_iln rfl ?_
      refine w_cv (st := []) rfl go rfl (Nat.le_of_ble_eq_true rfl) (fun kk h => h) (r_X7_put (d := d) go gb fa fn (by omega) (by omega) (fun M1 e1 b1 b2 e2 => ?_))
      have n_1 : M1.1 tp 1 = ((n + 4 : Nat) : Int) := e1.trans (by omega)
      have tn : (((n : Nat) : Int)).toNat = n := by omega
      rw [tn] at b1 b2
      have f_1 : M1.1 bc = rv_fd (M.1 bc) n a1 := rv_fd_of (fun j hj => b1 j hj) (fun k hk => (b2 bc k (fun e => ne e.1) (fun e => hk e.2)))
      have e2_1 : M1.2 = M.2 := e2
      clear b1 b2 e1 e2 tn
      refine w_aln rfl ?_
      refine w_gr gx rfl (by decide) rfl ((congrFun (congrFun (congrArg Prod.snd e2_1) x) 0).trans fx) ?_
      refine w_iln rfl ?_
      refine w_cv (st := []) rfl go rfl (Nat.le_of_ble_eq_true rfl) (fun kk h => h) (r_X7_put (d := d) go gb ((congrFun (congrFun (congrArg Prod.snd e2_1) tp) 0).trans fa) n_1 (by omega) (by omega) (fun M2 e1 b1 b2 e2 => ?_))
      have n_2 : M2.1 tp 1 = ((n + 8 : Nat) : Int) := e1.trans (by omega)
      have tn : (((n + 4 : Nat) : Int)).toNat = n + 4 := by omega
      rw [tn] at b1 b2
      have f_2 : M2.1 bc = rv_fd (M1.1 bc) (n + 4) a2 := rv_fd_of (fun j hj => b1 j hj) (fun k hk => (b2 bc k (fun e => ne e.1) (fun e => hk e.2)))
      rw [f_1] at f_2
      have e2_2 : M2.2 = M.2 := e2.trans e2_1
      clear b1 b2 e1 e2 tn
      refine w_aln rfl ?_
      refine w_gr gx rfl (by decide) rfl ((congrFun (congrFun (congrArg Prod.snd e2_2) x) 0).trans fx) ?_
      refine w_iln rfl ?_
      refine w_cv (st := []) rfl go rfl (Nat.le_of_ble_eq_true rfl) (fun kk h => h) (r_X7_put (d := d) go gb ((congrFun (congrFun (congrArg Prod.snd e2_2) tp) 0).trans fa) n_2 (by omega) (by omega) (fun M3 e1 b1 b2 e2 => ?_))
      have n_3 : M3.1 tp 1 = ((n + 12 : Nat) : Int) := e1.trans (by omega)
      have tn : (((n + 8 : Nat) : Int)).toNat = n + 8 := by omega
      rw [tn] at b1 b2
      have f_3 : M3.1 bc = rv_fd (M2.1 bc) (n + 8) a3 := rv_fd_of (fun j hj => b1 j hj) (fun k hk => (b2 bc k (fun e => ne e.1) (fun e => hk e.2)))
      rw [f_2] at f_3
      have e2_3 : M3.2 = M.2 := e2.trans e2_2
      clear b1 b2 e1 e2 tn
      refine w_aln rfl ?_
      refine w_gr gx rfl (by decide) rfl ((congrFun (congrFun (congrArg Prod.snd e2_3) x) 0).trans fx) ?_
      refine w_il rfl ?_
      refine w_cv (st := []) rfl go rfl (Nat.le_of_ble_eq_true rfl) (fun kk h => h) (r_X7_put (d := d) go gb ((congrFun (congrFun (congrArg Prod.snd e2_3) tp) 0).trans fa) n_3 (by omega) (by omega) (fun M4 e1 b1 b2 e2 => ?_))
      have n_4 : M4.1 tp 1 = ((n + 16 : Nat) : Int) := e1.trans (by omega)
      have tn : (((n + 12 : Nat) : Int)).toNat = n + 12 := by omega
      rw [tn] at b1 b2
      have f_4 : M4.1 bc = rv_fd (M3.1 bc) (n + 12) a4 := rv_fd_of (fun j hj => b1 j hj) (fun k hk => (b2 bc k (fun e => ne e.1) (fun e => hk e.2)))
      rw [f_3] at f_4
      have e2_4 : M4.2 = M.2 := e2.trans e2_3
      clear b1 b2 e1 e2 tn
      refine w_aln rfl ?_
      refine w_gr gx rfl (by decide) rfl ((congrFun (congrFun (congrArg Prod.snd e2_4) x) 0).trans fx) ?_
      refine w_il rfl ?_
      refine w_cv (st := []) rfl go rfl (Nat.le_of_ble_eq_true rfl) (fun kk h => h) (r_X7_put (d := d) go gb ((congrFun (congrFun (congrArg Prod.snd e2_4) tp) 0).trans fa) n_4 (by omega) (by omega) (fun M5 e1 b1 b2 e2 => ?_))
      have n_5 : M5.1 tp 1 = ((n + 20 : Nat) : Int) := e1.trans (by omega)
      have tn : (((n + 16 : Nat) : Int)).toNat = n + 16 := by omega
      rw [tn] at b1 b2
      have f_5 : M5.1 bc = rv_fd (M4.1 bc) (n + 16) a5 := rv_fd_of (fun j hj => b1 j hj) (fun k hk => (b2 bc k (fun e => ne e.1) (fun e => hk e.2)))
      rw [f_4] at f_5
      have e2_5 : M5.2 = M.2 := e2.trans e2_4
      clear b1 b2 e1 e2 tn
      refine w_aln rfl ?_
      refine w_gr gx rfl (by decide) rfl ((congrFun (congrFun (congrArg Prod.snd e2_5) x) 0).trans fx) ?_
      refine w_gi go rfl (by decide) rfl (n_5) ?_
      exact w_iret (fun q => by cases q) (h1 (by omega) _ _ f_5)
    · exfalso; omega
theorem r_X12_feed2 {d m bt : Nat} {n : Nat} {a1 a2 a3 a4 a5 : Int} {G : mj_G} {M : mj_M} {Q : mj_P} (go : G m = (1012, 0)) (gb : G bt = (50101, 940)) (fa : M.2.2 m 1 = some bt) (fn : M.1 m 2 = (n : Int)) (hn : n ≤ 940) (h1 : n ≤ 920 → ∀ z M', M'.1 bt = rv_f5 (M.1 bt) n a1 a2 a3 a4 a5 → Q (some (.inl z)) G M') (h0 : 920 < n → ∀ z M', M'.1 bt = M.1 bt → Q (some (.inl z)) G M') : mj_R mj_tab (d + 2) 187 [.inr (.inr (some m)), .inl a1, .inl a2, .inl a3, .inl a4, .inl a5] G M Q := by
  have ne : bt ≠ m := hn_ne gb go (by decide)
  refine ⟨Nat.le_of_ble_eq_true rfl, ?_⟩
  show wz (d + 1) mt_X12_feed.2.2.2.2.1 Q mt_X12_feed.2.2.2.2.1 [some (.inr (.inr (some m))), some (.inl a1), some (.inl a2), some (.inl a3), some (.inl a4), some (.inl a5)] [] G M _ _
  refine w_aln rfl ?_
  refine w_ic ?_
  refine w_pi go rfl (by decide) rfl (fun q => by cases q) ?_
  refine w_aln rfl ?_
  refine w_gi go rfl (by decide) rfl ((hn_n (Or.inr (by decide))).trans fn) ?_
  refine w_bp ?_
  refine w_add ⟨by show (-2147483648 : Int) ≤ ((n : Nat) : Int) + 20; omega, by show ((n : Nat) : Int) + 20 < (2147483648 : Int); omega⟩ ?_
  refine w_sp ?_
  refine w_cmle (fun c1 => ?_) (fun c1 => ?_)
  · skip
    refine w_aln rfl ?_
    refine w_iln rfl ?_
    refine w_cv (st := []) rfl go rfl (Nat.le_of_ble_eq_true rfl) (fun kk h => h) (r_X12_four (d := d) go gb fa ((hn_n (Or.inr (by decide))).trans fn) (by omega) (by omega) (fun M1 e1 b1 b2 e2 => ?_))
    have n_1 : M1.1 m 2 = ((n + 4 : Nat) : Int) := e1.trans (by omega)
    have tn : (((n : Nat) : Int)).toNat = n := by omega
    rw [tn] at b1 b2
    have f_1 : M1.1 bt = rv_fd (M.1 bt) n a1 := rv_fd_of (fun j hj => (b1 j hj).trans (rv_b712 _ j hj).symm) (fun k hk => ((b2 bt k (fun e => ne e.1) (fun e => hk e.2)).trans (hn_n (Or.inl ne))))
    have e2_1 : M1.2 = M.2 := e2
    clear b1 b2 e1 e2 tn
    refine w_aln rfl ?_
    refine w_iln rfl ?_
    refine w_cv (st := []) rfl go rfl (Nat.le_of_ble_eq_true rfl) (fun kk h => h) (r_X12_four (d := d) go gb ((congrFun (congrFun (congrArg Prod.snd e2_1) m) 1).trans fa) n_1 (by omega) (by omega) (fun M2 e1 b1 b2 e2 => ?_))
    have n_2 : M2.1 m 2 = ((n + 8 : Nat) : Int) := e1.trans (by omega)
    have tn : (((n + 4 : Nat) : Int)).toNat = n + 4 := by omega
    rw [tn] at b1 b2
    have f_2 : M2.1 bt = rv_fd (M1.1 bt) (n + 4) a2 := rv_fd_of (fun j hj => (b1 j hj).trans (rv_b712 _ j hj).symm) (fun k hk => (b2 bt k (fun e => ne e.1) (fun e => hk e.2)))
    rw [f_1] at f_2
    have e2_2 : M2.2 = M.2 := e2.trans e2_1
    clear b1 b2 e1 e2 tn
    refine w_aln rfl ?_
    refine w_iln rfl ?_
    refine w_cv (st := []) rfl go rfl (Nat.le_of_ble_eq_true rfl) (fun kk h => h) (r_X12_four (d := d) go gb ((congrFun (congrFun (congrArg Prod.snd e2_2) m) 1).trans fa) n_2 (by omega) (by omega) (fun M3 e1 b1 b2 e2 => ?_))
    have n_3 : M3.1 m 2 = ((n + 12 : Nat) : Int) := e1.trans (by omega)
    have tn : (((n + 8 : Nat) : Int)).toNat = n + 8 := by omega
    rw [tn] at b1 b2
    have f_3 : M3.1 bt = rv_fd (M2.1 bt) (n + 8) a3 := rv_fd_of (fun j hj => (b1 j hj).trans (rv_b712 _ j hj).symm) (fun k hk => (b2 bt k (fun e => ne e.1) (fun e => hk e.2)))
    rw [f_2] at f_3
    have e2_3 : M3.2 = M.2 := e2.trans e2_2
    clear b1 b2 e1 e2 tn
    refine w_aln rfl ?_
    refine w_il rfl ?_
    refine w_cv (st := []) rfl go rfl (Nat.le_of_ble_eq_true rfl) (fun kk h => h) (r_X12_four (d := d) go gb ((congrFun (congrFun (congrArg Prod.snd e2_3) m) 1).trans fa) n_3 (by omega) (by omega) (fun M4 e1 b1 b2 e2 => ?_))
    have n_4 : M4.1 m 2 = ((n + 16 : Nat) : Int) := e1.trans (by omega)
    have tn : (((n + 12 : Nat) : Int)).toNat = n + 12 := by omega
    rw [tn] at b1 b2
    have f_4 : M4.1 bt = rv_fd (M3.1 bt) (n + 12) a4 := rv_fd_of (fun j hj => (b1 j hj).trans (rv_b712 _ j hj).symm) (fun k hk => (b2 bt k (fun e => ne e.1) (fun e => hk e.2)))
    rw [f_3] at f_4
    have e2_4 : M4.2 = M.2 := e2.trans e2_3
    clear b1 b2 e1 e2 tn
    refine w_aln rfl ?_
    refine w_il rfl ?_
    refine w_cv (st := []) rfl go rfl (Nat.le_of_ble_eq_true rfl) (fun kk h => h) (r_X12_four (d := d) go gb ((congrFun (congrFun (congrArg Prod.snd e2_4) m) 1).trans fa) n_4 (by omega) (by omega) (fun M5 e1 b1 b2 e2 => ?_))
    have n_5 : M5.1 m 2 = ((n + 20 : Nat) : Int) := e1.trans (by omega)
    have tn : (((n + 16 : Nat) : Int)).toNat = n + 16 := by omega
    rw [tn] at b1 b2
    have f_5 : M5.1 bt = rv_fd (M4.1 bt) (n + 16) a5 := rv_fd_of (fun j hj => (b1 j hj).trans (rv_b712 _ j hj).symm) (fun k hk => (b2 bt k (fun e => ne e.1) (fun e => hk e.2)))
    rw [f_4] at f_5
    have e2_5 : M5.2 = M.2 := e2.trans e2_4
    clear b1 b2 e1 e2 tn
    refine w_aln rfl ?_
    refine w_gi go rfl (by decide) rfl (n_5) ?_
    exact w_iret (fun q => by cases q) (h1 (by omega) _ _ f_5)
  · skip
    refine w_ic ?_
    exact w_iret (fun q => by cases q) (h0 (by omega) _ _ (wz_c ne))
end
section
/-! ===== the class's plain: the state behind it (laid by a program) ===== -/
/-- what else stays behind plain -/
def rv_fo (x tp pl wa oa dl fa sa ca se ye ud : Nat) (tr br : Nat → Nat) (M M' : mj_M) : Prop := ∀ a, a ≠ x → a ≠ tp → a ≠ pl → a ≠ wa → a ≠ oa → (∀ t, t < 8 → a ≠ tr t) → (∀ t, t < 8 → a ≠ br t) → a ≠ dl → a ≠ fa → a ≠ sa → a ≠ ca → a ≠ se → a ≠ ye → a ≠ ud → M'.1 a = M.1 a
/-- the state behind a plain() that reads a PLAIN -/
def rv_PO (x tp pl na wa oa sp nw pn dl fa sa ca se ye ud : Nat) (tr br : Nat → Nat) (PL WA OA : Nat → Int) (TO BI : Nat → Nat → Int) (nm : Nat → List Int) (M M' : mj_M) : Prop :=
  (∀ k, k ≠ 9 → M'.1 pl k = PL k) ∧ M'.1 wa = WA ∧ (∀ s, s < 8 → M'.1 (tr s) = TO s) ∧ (∀ s, s < 8 → M'.1 (br s) = BI s) ∧ (∀ s, s < 8 → M'.2.1 na s = rv_5 (nm s) ∧ rv_wo (nm s)) ∧ M'.2.2 nw 0 = some pl ∧ (sp ≠ nw → M'.2.2 sp 0 = some pn) ∧ (∀ a j, ¬ (a = tp ∧ j = 9) → ¬ (a = nw ∧ j = 0) → ¬ (a = sp ∧ j = 0) → M'.2.2 a j = M.2.2 a j) ∧ (∀ a, a ≠ na → a ≠ tp → M'.2.1 a = M.2.1 a) ∧ rv_fo x tp pl wa oa dl fa sa ca se ye ud tr br M M'
/-- the state behind a plain() that tells a FAULT -/
def rv_PF (x tp pl na wa oa : Nat) (tr br : Nat → Nat) (M M' : mj_M) : Prop := (∀ a j, ¬ (a = tp ∧ j = 9) → M'.2.2 a j = M.2.2 a j) ∧ (∀ a, a ≠ na → a ≠ tp → M'.2.1 a = M.2.1 a) ∧ (∀ a, a ≠ x → a ≠ tp → a ≠ pl → a ≠ wa → a ≠ oa → (∀ t, t < 8 → a ≠ tr t) → (∀ t, t < 8 → a ≠ br t) → M'.1 a = M.1 a)
/-- and fresh: bids to be undone, YEAR, SENTENCE, CONTRACTS -/
def rv_P2 (x pl dl fa sa ca se ye ud : Nat) (M M' : mj_M) : Prop := M'.1 ud 3 = 0 ∧ M'.1 ye 0 = 0 ∧ M'.1 se 4 = 0 ∧ M'.1 se 5 = 0 ∧ (∀ j, j < 12 → M'.1 fa j = -1 ∧ M'.1 sa j = -1 ∧ M'.1 ca j = 0) ∧ M'.1 dl 3 = 0 ∧ M'.1 x 13 = (Int32.ofInt (M.1 x 13) + Int32.ofInt 1).toInt ∧ M'.1 pl 9 = M'.1 x 13
def rv_PG (x tp pl na wa oa : Nat) (tr br : Nat → Nat) (M M' : mj_M) : Prop := rv_PF x tp pl na wa oa tr br M M' ∧ M'.1 x 13 = M.1 x 13
theorem r_qp_F {G : mj_G} {M0 M : mj_M} {B : Nat → Int} {n lim tp bc pl na ta ba wa oa : Nat} {tr br : Nat → Nat} {T : Nat → Nat × Nat × Int × List Int × Nat} {Q : mj_P} {d : Nat} {x sp nw pn dl fa sa ca se ye ud : Nat} {z : Int} (hA : rv_AT G M0 B n lim tp bc pl na ta ba wa oa tr br T) (hX : rv_X G M0 x tp pl sp nw pn dl fa sa ca se ye ud) {f : Int} {a : Nat} (hF : rv_F tp pl na wa oa tr br M0 f a M) (hQ : ∀ M', rv_PG x tp pl na wa oa tr br M0 M' → Q (some (.inl (rv_vf a))) G M') : ∀ cb sb, wz (d + 7) mt_X11_plain.2.2.2.2.1 Q (mt_X11_plain.2.2.2.2.1.drop 14) [some (.inr (.inr (some x))), some (.inr (.inr (some pl))), none] [.inl z] G M cb sb := by
  obtain ⟨⟨gtp, gbc, gpl, gna, gta, gba, gwa, goa, gtr, gbr, itr, ibr, r1, r2, r3, r4, r5, r6, r7, r8, rb, rw0, n1, n2, hIw⟩, hT⟩ := id hA
  obtain ⟨⟨gx, gsp, gnw, gse, gye, gud, hD⟩, x_x0, x_x1, x_x2, x_x5, x_sp0, x_nw0, x_nw1, x_nw2, x_nw3⟩ := id hX
  have gdl := hD.1
  obtain ⟨f2, f3, ⟨w1, w2, hfr⟩, f0⟩ := hF
  intro cb sb
  refine w_isn ?_
  show wz _ _ _ _ [some (.inr (.inr (some x))), some (.inr (.inr (some pl))), some (.inl z)] _ _ _ _ _
  refine w_aln rfl ?_
  refine w_gr gx rfl (by decide) rfl ((hfr x 0 (fun e => absurd e.1 (hn_ne gx gtp (by decide)))).trans x_x0) ?_
  refine w_gi gtp rfl (by decide) rfl (f2) ?_
  refine w_ifne (fun c1 => ?_) (fun c1 => ?_)
  · skip
    refine w_aln rfl ?_
    refine w_iln rfl ?_
    refine w_cv (st := []) rfl gx rfl (Nat.le_of_ble_eq_true rfl) (fun kk h => h) ⟨Nat.le_of_ble_eq_true rfl, ?_⟩
    show wz (d + 6) mt_X11_closeTape.2.2.2.2.1 _ mt_X11_closeTape.2.2.2.2.1 [some (.inr (.inr (some x))), some (.inl z)] [] _ _ _ _
    refine w_aln rfl ?_
    refine w_gr gx rfl (by decide) rfl ((hfr x 0 (fun e => absurd e.1 (hn_ne gx gtp (by decide)))).trans x_x0) ?_
    refine w_ic ?_
    refine w_pi gtp rfl (by decide) rfl (fun q => by cases q) ?_
    refine w_aln rfl ?_
    refine w_aln rfl ?_
    refine w_gr gx rfl (by decide) rfl ((hfr x 0 (fun e => absurd e.1 (hn_ne gx gtp (by decide)))).trans x_x0) ?_
    refine w_gi gtp rfl (by decide) rfl ((hn_n (Or.inr (by decide))).trans (f2)) ?_
    refine w_pi gx rfl (by decide) rfl (fun q => by cases q) ?_
    refine w_aln rfl ?_
    refine w_gi gx rfl (by decide) rfl (hn_s) ?_
    refine w_ifne (fun c2 => ?_) (fun c2 => ?_)
    · skip
      refine w_ic ?_
      refine w_aln rfl ?_
      refine w_gr gx rfl (by decide) rfl ((hfr x 0 (fun e => absurd e.1 (hn_ne gx gtp (by decide)))).trans x_x0) ?_
      refine w_gi gtp rfl (by decide) rfl ((hn_n (Or.inr (by decide))).trans ((hn_n (Or.inr (by decide))).trans (f3))) ?_
      refine w_subw ?_
      intro z3 hz3 ez3
      refine w_iret (fun q => by cases q) ?_
      have ev : z3 = rv_vf a := ez3
      refine w_iret (fun q => by cases q) ?_
      rw [ev]
      exact hQ _ ⟨⟨hfr, w2, fun a a0 a1 a2 a3 a4 a5 a6 => (wz_c a0).trans ((wz_c a1).trans (w1 a a1 a2 a3 a4 a5 a6))⟩, (hn_n (Or.inr (by decide))).trans ((hn_n (Or.inl (hn_ne gx gtp (by decide)))).trans (congrFun (w1 x (hn_ne gx gtp (by decide)) (hn_ne gx gpl (by decide)) (hn_ne gx gwa (by decide)) (hn_ne gx goa (by decide)) (fun t ht => hn_ne gx (gtr t ht) (by decide)) (fun t ht => hn_ne gx (gbr t ht) (by decide))) 13))⟩
    · exfalso; omega
  · exfalso; omega
theorem r_qp_O {G : mj_G} {M0 M : mj_M} {B : Nat → Int} {n lim tp bc pl na ta ba wa oa : Nat} {tr br : Nat → Nat} {T : Nat → Nat × Nat × Int × List Int × Nat} {Q : mj_P} {d : Nat} {x sp nw pn dl fa sa ca se ye ud : Nat} {z : Int} (hA : rv_AT G M0 B n lim tp bc pl na ta ba wa oa tr br T) (hX : rv_X G M0 x tp pl sp nw pn dl fa sa ca se ye ud) {PL WA OA : Nat → Int} {TO BI : Nat → Nat → Int} {nm : Nat → List Int} {t : Nat × Nat × Int × List Int × Nat} (hS : rv_S G M0 n lim tp pl na wa oa tr br t PL WA OA TO BI nm M) (hQ : ∀ M', rv_PO x tp pl na wa oa sp nw pn dl fa sa ca se ye ud tr br PL WA OA TO BI nm M0 M' → rv_P2 x pl dl fa sa ca se ye ud M0 M' → Q (some (.inl z)) G M') : ∀ cb sb, wz (d + 7) mt_X11_plain.2.2.2.2.1 Q (mt_X11_plain.2.2.2.2.1.drop 14) [some (.inr (.inr (some x))), some (.inr (.inr (some pl))), none] [.inl z] G M cb sb := by
  obtain ⟨⟨gtp, gbc, gpl, gna, gta, gba, gwa, goa, gtr, gbr, itr, ibr, r1, r2, r3, r4, r5, r6, r7, r8, rb, rw0, n1, n2, hIw⟩, hT⟩ := id hA
  obtain ⟨⟨gx, gsp, gnw, gse, gye, gud, hD⟩, x_x0, x_x1, x_x2, x_x5, x_sp0, x_nw0, x_nw1, x_nw2, x_nw3⟩ := id hX
  have gdl := hD.1
  have hfr := hS.2.2.2.2.2.2.2.2.2.2
  have f2 := hS.1.2.2
  obtain ⟨-, -, c5, c6, c7, c8, c9, c10, w1, w2, -⟩ := id hS
  intro cb sb
  refine w_isn ?_
  show wz _ _ _ _ [some (.inr (.inr (some x))), some (.inr (.inr (some pl))), some (.inl z)] _ _ _ _ _
  refine w_aln rfl ?_
  refine w_gr gx rfl (by decide) rfl ((hfr x 0 (fun e => absurd e.1 (hn_ne gx gtp (by decide)))).trans x_x0) ?_
  refine w_gi gtp rfl (by decide) rfl (f2) ?_
  refine w_ifne (fun c1 => ?_) (fun c1 => ?_)
  · exfalso; omega
  · skip
    refine w_aln rfl ?_
    refine w_dupr ?_
    refine w_gi gx rfl (by decide) rfl (rfl) ?_
    refine w_ic ?_
    refine w_addw ?_
    intro z2 hz2 ez2
    refine w_pi gx rfl (by decide) rfl (fun q => by cases q) ?_
    refine w_aln rfl ?_
    refine w_aln rfl ?_
    refine w_gi gx rfl (by decide) rfl (hn_s) ?_
    refine w_pi gpl rfl (by decide) rfl (fun q => by cases q) ?_
    refine w_aln rfl ?_
    refine w_gr gx rfl (by decide) rfl ((hfr x 2 (fun e => absurd e.1 (hn_ne gx gtp (by decide)))).trans x_x2) ?_
    refine w_aln rfl ?_
    refine w_gr gx rfl (by decide) rfl ((hfr x 1 (fun e => absurd e.1 (hn_ne gx gtp (by decide)))).trans x_x1) ?_
    refine w_gr gnw rfl (by decide) rfl ((hfr nw 0 (fun e => absurd e.1 (hn_ne gnw gtp (by decide)))).trans x_nw0) ?_
    refine w_pr gsp rfl (by decide) rfl ?_
    refine w_aln rfl ?_
    refine w_gr gx rfl (by decide) rfl ((wz_nr (Or.inr (by decide))).trans ((hfr x 1 (fun e => absurd e.1 (hn_ne gx gtp (by decide)))).trans x_x1)) ?_
    refine w_aln rfl ?_
    refine w_pr gnw rfl (by decide) rfl ?_
    refine w_aln rfl ?_
    refine w_gr gx rfl (by decide) rfl ((wz_nr (Or.inr (by decide))).trans ((wz_nr (Or.inr (by decide))).trans ((hfr x 1 (fun e => absurd e.1 (hn_ne gx gtp (by decide)))).trans x_x1))) ?_
    refine w_gr gnw rfl (by decide) rfl ((wz_nr (Or.inr (by decide))).trans ((wz_nr (Or.inr (by decide))).trans ((hfr nw 1 (fun e => absurd e.1 (hn_ne gnw gtp (by decide)))).trans x_nw1))) ?_
    refine w_cv (st := []) rfl gdl rfl (Nat.le_of_ble_eq_true rfl) (fun kk h => h) (r_X1_clear (d := d + 6) (fa := fa) (sa := sa) (ca := ca) ?_ (fun M3 u2 u1 u3 u4 => ?_))
    · exact ⟨hD.1, hD.2.1, hD.2.2.1, hD.2.2.2.1, (wz_nr (Or.inl (hn_ne hD.1 gnw (by decide)))).trans ((wz_nr (Or.inl (hn_ne hD.1 gsp (by decide)))).trans ((hfr dl 0 (fun e => absurd e.1 (hn_ne hD.1 gtp (by decide)))).trans hD.2.2.2.2.1)), (wz_nr (Or.inl (hn_ne hD.1 gnw (by decide)))).trans ((wz_nr (Or.inl (hn_ne hD.1 gsp (by decide)))).trans ((hfr dl 1 (fun e => absurd e.1 (hn_ne hD.1 gtp (by decide)))).trans hD.2.2.2.2.2.1)), (wz_nr (Or.inl (hn_ne hD.1 gnw (by decide)))).trans ((wz_nr (Or.inl (hn_ne hD.1 gsp (by decide)))).trans ((hfr dl 2 (fun e => absurd e.1 (hn_ne hD.1 gtp (by decide)))).trans hD.2.2.2.2.2.2))⟩
    refine w_aln rfl ?_
    refine w_gr gx rfl (by decide) rfl ((congrFun (congrFun (congrArg Prod.snd u2) x) 1).trans ((wz_nr (Or.inr (by decide))).trans ((wz_nr (Or.inr (by decide))).trans ((hfr x 1 (fun e => absurd e.1 (hn_ne gx gtp (by decide)))).trans x_x1)))) ?_
    refine w_gr gnw rfl (by decide) rfl ((congrFun (congrFun (congrArg Prod.snd u2) nw) 2).trans ((wz_nr (Or.inr (by decide))).trans ((wz_nr (Or.inr (by decide))).trans ((hfr nw 2 (fun e => absurd e.1 (hn_ne gnw gtp (by decide)))).trans x_nw2)))) ?_
    refine w_cv (st := []) rfl gse rfl (Nat.le_of_ble_eq_true rfl) (fun kk h => h) ⟨Nat.le_of_ble_eq_true rfl, ?_⟩
    show wz (d + 6) mt_X5_clear.2.2.2.2.1 _ mt_X5_clear.2.2.2.2.1 [some (.inr (.inr (some se)))] [] _ _ _ _
    refine w_aln rfl ?_
    refine w_ic ?_
    refine w_pi gse rfl (by decide) rfl (fun q => by cases q) ?_
    refine w_aln rfl ?_
    refine w_ic ?_
    refine w_pi gse rfl (by decide) rfl (fun q => by cases q) ?_
    refine w_ret ?_
    refine w_aln rfl ?_
    refine w_gr gx rfl (by decide) rfl ((congrFun (congrFun (congrArg Prod.snd u2) x) 1).trans ((wz_nr (Or.inr (by decide))).trans ((wz_nr (Or.inr (by decide))).trans ((hfr x 1 (fun e => absurd e.1 (hn_ne gx gtp (by decide)))).trans x_x1)))) ?_
    refine w_gr gnw rfl (by decide) rfl ((congrFun (congrFun (congrArg Prod.snd u2) nw) 3).trans ((wz_nr (Or.inr (by decide))).trans ((wz_nr (Or.inr (by decide))).trans ((hfr nw 3 (fun e => absurd e.1 (hn_ne gnw gtp (by decide)))).trans x_nw3)))) ?_
    refine w_ic ?_
    refine w_pi gye rfl (by decide) rfl (fun _ => by omega) ?_
    refine w_aln rfl ?_
    refine w_gr gx rfl (by decide) rfl ((congrFun (congrFun (congrArg Prod.snd u2) x) 5).trans ((wz_nr (Or.inr (by decide))).trans ((wz_nr (Or.inr (by decide))).trans ((hfr x 5 (fun e => absurd e.1 (hn_ne gx gtp (by decide)))).trans x_x5)))) ?_
    refine w_ic ?_
    refine w_pi gud rfl (by decide) rfl (fun q => by cases q) ?_
    refine w_aln rfl ?_
    refine w_iln rfl ?_
    refine w_cv (st := []) rfl gx rfl (Nat.le_of_ble_eq_true rfl) (fun kk h => h) ⟨Nat.le_of_ble_eq_true rfl, ?_⟩
    show wz (d + 6) mt_X11_closeTape.2.2.2.2.1 _ mt_X11_closeTape.2.2.2.2.1 [some (.inr (.inr (some x))), some (.inl z)] [] _ _ _ _
    refine w_aln rfl ?_
    refine w_gr gx rfl (by decide) rfl ((congrFun (congrFun (congrArg Prod.snd u2) x) 0).trans ((wz_nr (Or.inl (hn_ne gx gnw (by decide)))).trans ((wz_nr (Or.inl (hn_ne gx gsp (by decide)))).trans ((hfr x 0 (fun e => absurd e.1 (hn_ne gx gtp (by decide)))).trans x_x0)))) ?_
    refine w_ic ?_
    refine w_pi gtp rfl (by decide) rfl (fun q => by cases q) ?_
    refine w_aln rfl ?_
    refine w_aln rfl ?_
    refine w_gr gx rfl (by decide) rfl ((congrFun (congrFun (congrArg Prod.snd u2) x) 0).trans ((wz_nr (Or.inl (hn_ne gx gnw (by decide)))).trans ((wz_nr (Or.inl (hn_ne gx gsp (by decide)))).trans ((hfr x 0 (fun e => absurd e.1 (hn_ne gx gtp (by decide)))).trans x_x0)))) ?_
    refine w_gi gtp rfl (by decide) rfl ((hn_n (Or.inr (by decide))).trans ((hn_n (Or.inr (by decide))).trans ((hn_n (Or.inr (by decide))).trans ((hn_n (Or.inr (by decide))).trans ((hn_n (Or.inr (by decide))).trans ((congrFun (u1 tp (hn_ne gtp gdl (by decide)) (hn_ne gtp hD.2.1 (by decide)) (hn_ne gtp hD.2.2.1 (by decide)) (hn_ne gtp hD.2.2.2.1 (by decide))) 2).trans ((hn_n (Or.inr (by decide))).trans ((hn_n (Or.inr (by decide))).trans (f2))))))))) ?_
    refine w_pi gx rfl (by decide) rfl (fun q => by cases q) ?_
    refine w_aln rfl ?_
    refine w_gi gx rfl (by decide) rfl (hn_s) ?_
    refine w_ifne (fun c3 => ?_) (fun c3 => ?_)
    · exfalso; omega
    · skip
      refine w_iln rfl ?_
      refine w_goto ?_
      refine w_iret (fun q => by cases q) ?_
      exact w_iret (fun q => by cases q) (hQ _ ⟨fun k hk => (hn_n (Or.inl (hn_ne gpl gx (by decide)))).trans ((hn_n (Or.inl (hn_ne gpl gtp (by decide)))).trans ((hn_n (Or.inl (hn_ne gpl gud (by decide)))).trans ((hn_n (Or.inl (hn_ne gpl gye (by decide)))).trans ((hn_n (Or.inl (hn_ne gpl gse (by decide)))).trans ((hn_n (Or.inl (hn_ne gpl gse (by decide)))).trans ((congrFun (u1 pl (hn_ne gpl gdl (by decide)) (hn_ne gpl hD.2.1 (by decide)) (hn_ne gpl hD.2.2.1 (by decide)) (hn_ne gpl hD.2.2.2.1 (by decide))) k).trans ((hn_n (Or.inr hk)).trans ((hn_n (Or.inl (hn_ne gpl gx (by decide)))).trans (congrFun c5 k))))))))), (wz_c (hn_ne gwa gx (by decide))).trans ((wz_c (hn_ne gwa gtp (by decide))).trans ((wz_c (hn_ne gwa gud (by decide))).trans ((wz_c (hn_ne gwa gye (by decide))).trans ((wz_c (hn_ne gwa gse (by decide))).trans ((wz_c (hn_ne gwa gse (by decide))).trans ((u1 wa (hn_ne gwa gdl (by decide)) (hn_ne gwa hD.2.1 (by decide)) (hn_ne gwa hD.2.2.1 (by decide)) (hn_ne gwa hD.2.2.2.1 (by decide))).trans ((wz_c (hn_ne gwa gpl (by decide))).trans ((wz_c (hn_ne gwa gx (by decide))).trans (c6))))))))), fun s hs => (wz_c (hn_ne (gtr s hs) gx (by decide))).trans ((wz_c (hn_ne (gtr s hs) gtp (by decide))).trans ((wz_c (hn_ne (gtr s hs) gud (by decide))).trans ((wz_c (hn_ne (gtr s hs) gye (by decide))).trans ((wz_c (hn_ne (gtr s hs) gse (by decide))).trans ((wz_c (hn_ne (gtr s hs) gse (by decide))).trans ((u1 (tr s) (hn_ne (gtr s hs) gdl (by decide)) (hn_ne (gtr s hs) hD.2.1 (by decide)) (hn_ne (gtr s hs) hD.2.2.1 (by decide)) (hn_ne (gtr s hs) hD.2.2.2.1 (by decide))).trans ((wz_c (hn_ne (gtr s hs) gpl (by decide))).trans ((wz_c (hn_ne (gtr s hs) gx (by decide))).trans (c8 s hs))))))))), fun s hs => (wz_c (hn_ne (gbr s hs) gx (by decide))).trans ((wz_c (hn_ne (gbr s hs) gtp (by decide))).trans ((wz_c (hn_ne (gbr s hs) gud (by decide))).trans ((wz_c (hn_ne (gbr s hs) gye (by decide))).trans ((wz_c (hn_ne (gbr s hs) gse (by decide))).trans ((wz_c (hn_ne (gbr s hs) gse (by decide))).trans ((u1 (br s) (hn_ne (gbr s hs) gdl (by decide)) (hn_ne (gbr s hs) hD.2.1 (by decide)) (hn_ne (gbr s hs) hD.2.2.1 (by decide)) (hn_ne (gbr s hs) hD.2.2.2.1 (by decide))).trans ((wz_c (hn_ne (gbr s hs) gpl (by decide))).trans ((wz_c (hn_ne (gbr s hs) gx (by decide))).trans (c9 s hs))))))))), fun s hs => ⟨(congrFun (congrFun (congrArg Prod.fst u2) na) s).trans (c10 s hs).1, (c10 s hs).2⟩, (congrFun (congrFun (congrArg Prod.snd u2) nw) 0).trans wz_sr, fun hne => (congrFun (congrFun (congrArg Prod.snd u2) sp) 0).trans ((wz_nr (Or.inl hne)).trans wz_sr), fun a j g1 g2 g3 => (congrFun (congrFun (congrArg Prod.snd u2) a) j).trans ((wz_nr (Decidable.not_and_iff_or_not.mp g2)).trans ((wz_nr (Decidable.not_and_iff_or_not.mp g3)).trans (hfr a j g1))), fun a a1 a2 => (congrFun (congrArg Prod.fst u2) a).trans (w2 a a1 a2), fun a a0 a1 a2 a3 a4 a5 a6 a7 a8 a9 b0 b1 b2 b3 => (wz_c a0).trans ((wz_c a1).trans ((wz_c b3).trans ((wz_c b2).trans ((wz_c b1).trans ((wz_c b1).trans ((u1 a a7 a8 a9 b0).trans ((wz_c a2).trans ((wz_c a0).trans (w1 a a1 a2 a3 a4 a5 a6)))))))))⟩ ⟨(hn_n (Or.inl (hn_ne gud gx (by decide)))).trans ((hn_n (Or.inl (hn_ne gud gtp (by decide)))).trans (hn_s)), (hn_n (Or.inl (hn_ne gye gx (by decide)))).trans ((hn_n (Or.inl (hn_ne gye gtp (by decide)))).trans ((hn_n (Or.inl (hn_ne gye gud (by decide)))).trans (hn_s))), (by first | exact (hn_n (Or.inl (hn_ne gse gx (by decide)))).trans ((hn_n (Or.inl (hn_ne gse gtp (by decide)))).trans ((hn_n (Or.inl (hn_ne gse gud (by decide)))).trans ((hn_n (Or.inl (hn_ne gse gye (by decide)))).trans (hn_s)))) | exact (hn_n (Or.inl (hn_ne gse gx (by decide)))).trans ((hn_n (Or.inl (hn_ne gse gtp (by decide)))).trans ((hn_n (Or.inl (hn_ne gse gud (by decide)))).trans ((hn_n (Or.inl (hn_ne gse gye (by decide)))).trans ((hn_n (Or.inr (by decide))).trans hn_s))))), (by first | exact (hn_n (Or.inl (hn_ne gse gx (by decide)))).trans ((hn_n (Or.inl (hn_ne gse gtp (by decide)))).trans ((hn_n (Or.inl (hn_ne gse gud (by decide)))).trans ((hn_n (Or.inl (hn_ne gse gye (by decide)))).trans (hn_s)))) | exact (hn_n (Or.inl (hn_ne gse gx (by decide)))).trans ((hn_n (Or.inl (hn_ne gse gtp (by decide)))).trans ((hn_n (Or.inl (hn_ne gse gud (by decide)))).trans ((hn_n (Or.inl (hn_ne gse gye (by decide)))).trans ((hn_n (Or.inr (by decide))).trans hn_s))))), fun j hj => ⟨(hn_n (Or.inl (hn_ne hD.2.1 gx (by decide)))).trans ((hn_n (Or.inl (hn_ne hD.2.1 gtp (by decide)))).trans ((hn_n (Or.inl (hn_ne hD.2.1 gud (by decide)))).trans ((hn_n (Or.inl (hn_ne hD.2.1 gye (by decide)))).trans ((hn_n (Or.inl (hn_ne hD.2.1 gse (by decide)))).trans ((hn_n (Or.inl (hn_ne hD.2.1 gse (by decide)))).trans ((u3 j hj).1)))))), (hn_n (Or.inl (hn_ne hD.2.2.1 gx (by decide)))).trans ((hn_n (Or.inl (hn_ne hD.2.2.1 gtp (by decide)))).trans ((hn_n (Or.inl (hn_ne hD.2.2.1 gud (by decide)))).trans ((hn_n (Or.inl (hn_ne hD.2.2.1 gye (by decide)))).trans ((hn_n (Or.inl (hn_ne hD.2.2.1 gse (by decide)))).trans ((hn_n (Or.inl (hn_ne hD.2.2.1 gse (by decide)))).trans ((u3 j hj).2.1)))))), (hn_n (Or.inl (hn_ne hD.2.2.2.1 gx (by decide)))).trans ((hn_n (Or.inl (hn_ne hD.2.2.2.1 gtp (by decide)))).trans ((hn_n (Or.inl (hn_ne hD.2.2.2.1 gud (by decide)))).trans ((hn_n (Or.inl (hn_ne hD.2.2.2.1 gye (by decide)))).trans ((hn_n (Or.inl (hn_ne hD.2.2.2.1 gse (by decide)))).trans ((hn_n (Or.inl (hn_ne hD.2.2.2.1 gse (by decide)))).trans ((u3 j hj).2.2))))))⟩, (hn_n (Or.inl (hn_ne gdl gx (by decide)))).trans ((hn_n (Or.inl (hn_ne gdl gtp (by decide)))).trans ((hn_n (Or.inl (hn_ne gdl gud (by decide)))).trans ((hn_n (Or.inl (hn_ne gdl gye (by decide)))).trans ((hn_n (Or.inl (hn_ne gdl gse (by decide)))).trans ((hn_n (Or.inl (hn_ne gdl gse (by decide)))).trans (u4)))))), ((hn_n (Or.inr (by decide))).trans ((hn_n (Or.inl (hn_ne gx gtp (by decide)))).trans ((hn_n (Or.inl (hn_ne gx gud (by decide)))).trans ((hn_n (Or.inl (hn_ne gx gye (by decide)))).trans ((hn_n (Or.inl (hn_ne gx gse (by decide)))).trans ((hn_n (Or.inl (hn_ne gx gse (by decide)))).trans ((congrFun (u1 x (hn_ne gx gdl (by decide)) (hn_ne gx hD.2.1 (by decide)) (hn_ne gx hD.2.2.1 (by decide)) (hn_ne gx hD.2.2.2.1 (by decide))) 13).trans ((hn_n (Or.inl (hn_ne gx gpl (by decide)))).trans (hn_s))))))))).trans (ez2.trans (by rw [w1 x (hn_ne gx gtp (by decide)) (hn_ne gx gpl (by decide)) (hn_ne gx gwa (by decide)) (hn_ne gx goa (by decide)) (fun t ht => hn_ne gx (gtr t ht) (by decide)) (fun t ht => hn_ne gx (gbr t ht) (by decide))])), ((hn_n (Or.inl (hn_ne gpl gx (by decide)))).trans ((hn_n (Or.inl (hn_ne gpl gtp (by decide)))).trans ((hn_n (Or.inl (hn_ne gpl gud (by decide)))).trans ((hn_n (Or.inl (hn_ne gpl gye (by decide)))).trans ((hn_n (Or.inl (hn_ne gpl gse (by decide)))).trans ((hn_n (Or.inl (hn_ne gpl gse (by decide)))).trans ((congrFun (u1 pl (hn_ne gpl gdl (by decide)) (hn_ne gpl hD.2.1 (by decide)) (hn_ne gpl hD.2.2.1 (by decide)) (hn_ne gpl hD.2.2.2.1 (by decide))) 9).trans (hn_s)))))))).trans ((hn_n (Or.inr (by decide))).trans ((hn_n (Or.inl (hn_ne gx gtp (by decide)))).trans ((hn_n (Or.inl (hn_ne gx gud (by decide)))).trans ((hn_n (Or.inl (hn_ne gx gye (by decide)))).trans ((hn_n (Or.inl (hn_ne gx gse (by decide)))).trans ((hn_n (Or.inl (hn_ne gx gse (by decide)))).trans ((congrFun (u1 x (hn_ne gx gdl (by decide)) (hn_ne gx hD.2.1 (by decide)) (hn_ne gx hD.2.2.1 (by decide)) (hn_ne gx hD.2.2.2.1 (by decide))) 13).trans ((hn_n (Or.inl (hn_ne gx gpl (by decide)))).trans (hn_s))))))))).symm⟩)
theorem r_X11_plain4 {G : mj_G} {M : mj_M} {B : Nat → Int} {n tp bc pl na ta ba wa oa : Nat} {tr br : Nat → Nat} {T : Nat → Nat × Nat × Int × List Int × Nat} {Q : mj_P} {d : Nat} {x sp nw pn dl fa sa ca se ye ud : Nat} (hA : rv_AT G M B n 900 tp bc pl na ta ba wa oa tr br T) (hX : rv_X G M x tp pl sp nw pn dl fa sa ca se ye ud) (hn : M.1 tp 1 = (n : Int)) (h : ∀ PL WA OA TO BI NA, rv_0 PL WA OA TO BI NA → sp_rows T (fun f a => ∀ M', rv_PG x tp pl na wa oa tr br M M' → Q (some (.inl (rv_vf a))) G M') (fun PL WA OA TO BI nm r => rv_pb PL → ∀ M', rv_PO x tp pl na wa oa sp nw pn dl fa sa ca se ye ud tr br PL WA OA TO BI nm M M' → rv_P2 x pl dl fa sa ca se ye ud M M' → Q (some (.inl (r : Int))) G M') (n + 1) PL WA OA TO BI (fun _ => []) 0 0) : mj_R mj_tab (d + 8) 138 [.inr (.inr (some x))] G M Q := by
  obtain ⟨⟨gtp, gbc, gpl, gna, gta, gba, gwa, goa, gtr, gbr, itr, ibr, r1, r2, r3, r4, r5, r6, r7, r8, rb, rw0, n1, n2, hIw⟩, hT⟩ := id hA
  obtain ⟨⟨gx, gsp, gnw, gse, gye, gud, hD⟩, x_x0, x_x1, x_x2, x_x5, x_sp0, x_nw0, x_nw1, x_nw2, x_nw3⟩ := id hX
  have gdl := hD.1
  refine ⟨Nat.le_of_ble_eq_true rfl, ?_⟩
  show wz (d + 7) mt_X11_plain.2.2.2.2.1 Q mt_X11_plain.2.2.2.2.1 [some (.inr (.inr (some x))), none, none] [] G M _ _
  refine w_aln rfl ?_
  refine w_gr gx rfl (by decide) rfl x_x2 ?_
  refine w_gr gsp rfl (by decide) rfl x_sp0 ?_
  refine w_asn ?_
  show wz _ _ _ _ [some (.inr (.inr (some x))), some (.inr (.inr (some pl))), none] _ _ _ _ _
  refine w_aln rfl ?_
  refine w_cv (st := []) rfl gpl rfl (Nat.le_of_ble_eq_true rfl) (fun kk h => h) (r_X3_clear (d := d + 6) (M0 := M) (PL := M.1 pl) (WA := M.1 wa) (OA := M.1 oa) (TO := fun s => M.1 (tr s)) (BI := fun s => M.1 (br s)) (NA := M.2.1 na) hA.1 ⟨rfl, rfl, rfl, fun _ _ => rfl, fun _ _ => rfl, rfl, fun _ _ _ _ _ _ => rfl, fun _ _ => rfl, rfl⟩ (fun PL WA OA TO BI NA M1 c1 z1 => ?_))
  obtain ⟨c5, c6, c7, c8, c9, c10, cf1, cf2, cf3⟩ := id c1
  have tpf : M1.1 tp = M.1 tp := cf1 tp (hn_ne gtp gpl (by decide)) (hn_ne gtp gwa (by decide)) (hn_ne gtp goa (by decide)) (fun t ht => hn_ne gtp (gtr t ht) (by decide)) (fun t ht => hn_ne gtp (gbr t ht) (by decide))
  refine w_aln rfl ?_
  refine w_gr gx rfl (by decide) rfl (by rw [cf3]; exact x_x0) ?_
  refine w_sp ?_
  refine w_cv (st := []) rfl gtp rfl (Nat.le_of_ble_eq_true rfl) (fun kk h => h) ⟨Nat.le_of_ble_eq_true rfl, ?_⟩
  show wz (d + 6) mt_X7_open.2.2.2.2.1 _ mt_X7_open.2.2.2.2.1 [some (.inr (.inr (some tp))), some (.inl 900)] [] _ _ _ _
  refine w_aln rfl ?_
  refine w_iln rfl ?_
  refine w_pi gtp rfl (by decide) rfl (fun q => by cases q) ?_
  refine w_aln rfl ?_
  refine w_ic ?_
  refine w_pi gtp rfl (by decide) rfl (fun q => by cases q) ?_
  refine w_aln rfl ?_
  refine w_ic ?_
  refine w_pi gtp rfl (by decide) rfl (fun q => by cases q) ?_
  refine w_aln rfl ?_
  refine w_ic ?_
  refine w_pi gtp rfl (by decide) rfl (fun q => by cases q) ?_
  refine w_ret ?_
  refine w_aln rfl ?_
  refine w_aln rfl ?_
  refine w_gr gx rfl (by decide) rfl (by show M1.2.2 x 0 = _; rw [cf3]; exact x_x0) ?_
  have e4 : ∀ b, b ≠ tp → (mj_p0 (mj_p0 (mj_p0 (mj_p0 M1 tp 10 900) tp 11 0) tp 2 0) tp 3 0).1 b = M1.1 b := fun b hb => (wz_c hb).trans ((wz_c hb).trans ((wz_c hb).trans (wz_c hb)))
  have n0 : ∀ s, s < 8 → NA s = rv_5 ((fun _ => []) s) ∧ rv_wo ((fun _ => []) s : List Int) := fun s hs => ⟨(z1.1 s hs).1, by show 0 ≤ 8; decide, fun y hy => by cases hy⟩
  have S0 : rv_S0 G M n 900 tp pl na wa oa tr br 0 PL WA OA TO BI (fun _ => []) (mj_p0 (mj_p0 (mj_p0 (mj_p0 M1 tp 10 900) tp 11 0) tp 2 0) tp 3 0) := ⟨⟨(hn_n (Or.inr (by decide))).trans ((hn_n (Or.inr (by decide))).trans ((hn_n (Or.inr (by decide))).trans ((hn_n (Or.inr (by decide))).trans ((congrFun tpf 1).trans hn)))), (hn_n (Or.inr (by decide))).trans ((hn_n (Or.inr (by decide))).trans ((hn_n (Or.inr (by decide))).trans hn_s)), (hn_n (Or.inr (by decide))).trans hn_s⟩, (hn_n (Or.inr (by decide))).trans ((hn_n (Or.inr (by decide))).trans hn_s), (e4 pl (hn_ne gpl gtp (by decide))).trans c5, (e4 wa (hn_ne gwa gtp (by decide))).trans c6, (e4 oa (hn_ne goa gtp (by decide))).trans c7, fun s hs => (e4 _ (hn_ne (gtr s hs) gtp (by decide))).trans (c8 s hs), fun s hs => (e4 _ (hn_ne (gbr s hs) gtp (by decide))).trans (c9 s hs), fun s hs => ⟨(congrFun c10 s).trans (n0 s hs).1, (n0 s hs).2⟩, fun a a1 a2 a3 a4 a5 a6 => (e4 a a1).trans (cf1 a a2 a3 a4 a5 a6), fun a a1 _ => cf2 a a1, fun a j _ => congrFun (congrFun cf3 a) j⟩
  refine w_cv (st := []) rfl gpl rfl (Nat.le_of_ble_eq_true rfl) (fun kk h => h) (r_X3_readRows (d := d) hA S0 ⟨by rw [z1.2.2.1]; decide, by rw [z1.2.2.1]; decide, by rw [z1.2.2.2.1]; decide, by rw [z1.2.2.2.1]; decide⟩ (sp_rows.mono (fun f a hf z M2 F2 => ?_) (fun PL2 WA2 OA2 TO2 BI2 nm2 r2 hk hb2 q2 M2 s2 => ?_) _ _ _ _ _ _ _ _ _ (h PL WA OA TO BI NA z1)))
  · exact r_qp_F hA hX F2 hf _ _
  · exact r_qp_O hA hX s2 (hk hb2) _ _
end
section
/-! ===== copies: rows for arraycopy, a PLAIN copied, contracts of two objects ===== -/
theorem w_cp0 {d : Nat} {full : List mj_E} {Q : mj_P} {rest : List mj_E} {L : mj_L} {st : List mj_V} {G : mj_G} {M : mj_M} {cb sb pc : Nat} {im : Int} {k w a b ta na tb nb : Nat} {sp dp n : Int} (ha : G a = (ta, na)) (hta : ta % 1000 = 100) (hb : G b = (tb, nb)) (htb : tb % 1000 = 100) (h9 : tb < 900000) (h1 : 0 ≤ sp) (h2 : 0 ≤ dp) (h3 : 0 ≤ n) (h4 : sp + n ≤ na) (h5 : dp + n ≤ nb) (h8 : mj_cat st ≤ 8) (kk : wz d full Q rest L st G (mj_cp0 M a b sp.toNat dp.toNat n.toNat) cb sb) : wz d full Q ((.invokestatic k, pc, [3, w], im) :: rest) L (.inl n :: .inl dp :: .inr (.inr (some b)) :: .inl sp :: .inr (.inr (some a)) :: st) G M cb sb := wz_st ⟨ta, na, ha, hta, tb, nb, hb, htb, h9, h1, h2, h3, h4, h5, h8, kk⟩
theorem w_cp1 {d : Nat} {full : List mj_E} {Q : mj_P} {rest : List mj_E} {L : mj_L} {st : List mj_V} {G : mj_G} {M : mj_M} {cb sb pc : Nat} {im : Int} {k w a b ta na tb nb : Nat} {sp dp n : Int} (ha : G a = (ta, na)) (hta : ta % 1000 = 103) (hb : G b = (tb, nb)) (htb : tb % 1000 = 103) (h9 : tb < 900000) (h1 : 0 ≤ sp) (h2 : 0 ≤ dp) (h3 : 0 ≤ n) (h4 : sp + n ≤ na) (h5 : dp + n ≤ nb) (h8 : mj_cat st ≤ 8) (kk : wz d full Q rest L st G (mj_cp1 M a b sp.toNat dp.toNat n.toNat) cb sb) : wz d full Q ((.invokestatic k, pc, [4, w], im) :: rest) L (.inl n :: .inl dp :: .inr (.inr (some b)) :: .inl sp :: .inr (.inr (some a)) :: st) G M cb sb := wz_st ⟨ta, na, ha, hta, tb, nb, hb, htb, h9, h1, h2, h3, h4, h5, h8, kk⟩
theorem cp0_o {M : mj_M} {a b x n : Nat} (h : x ≠ b) : (mj_cp0 M a b 0 0 n).1 x = M.1 x := funext fun _ => if_neg (fun e => h e.1)
theorem cp0_i {M : mj_M} {a b n j : Nat} (h : j < n) : (mj_cp0 M a b 0 0 n).1 b j = M.1 a j := (if_pos ⟨rfl, Nat.zero_le j, by omega⟩).trans (by rw [Nat.zero_add, Nat.sub_zero])
theorem cp1_o {M : mj_M} {a b x n : Nat} (h : x ≠ b) : (mj_cp1 M a b 0 0 n).2.1 x = M.2.1 x := funext fun _ => if_neg (fun e => h e.1)
theorem cp1_i {M : mj_M} {a b n j : Nat} (h : j < n) : (mj_cp1 M a b 0 0 n).2.1 b j = M.2.1 a j := (if_pos ⟨rfl, Nat.zero_le j, by omega⟩).trans (by rw [Nat.zero_add, Nat.sub_zero])
/-- a PLAIN's cells -/
def rv_K (G : mj_G) (M : mj_M) (pl na ta ba wa : Nat) (tr br : Nat → Nat) : Prop := G pl = (1004, 0) ∧ G na = (24103, 8) ∧ G ta = (25104, 8) ∧ G ba = (27104, 8) ∧ G wa = (29100, 12) ∧ (∀ t, t < 8 → G (tr t) = (26100, 9)) ∧ (∀ t, t < 8 → G (br t) = (28100, 12)) ∧ (∀ t s, t < 8 → s < 8 → tr t = tr s → t = s) ∧ (∀ t s, t < 8 → s < 8 → br t = br s → t = s) ∧ M.2.2 pl 0 = some na ∧ M.2.2 pl 1 = some ta ∧ M.2.2 pl 2 = some ba ∧ M.2.2 pl 3 = some wa ∧ (∀ t, t < 8 → M.2.2 ta t = some (tr t)) ∧ (∀ t, t < 8 → M.2.2 ba t = some (br t))
/-- two PLAINS apart -/
def rv_ap (pl na wa pl' na' wa' : Nat) (tr br tr' br' : Nat → Nat) : Prop := pl ≠ pl' ∧ na ≠ na' ∧ wa ≠ wa' ∧ (∀ t s, t < 8 → s < 8 → tr t ≠ tr' s) ∧ (∀ t s, t < 8 → s < 8 → br t ≠ br' s)
/-- one PLAIN copied to another (the first with dashes) -/
def rv_cp (pl na wa pl' na' wa' : Nat) (tr br tr' br' : Nat → Nat) (M M' : mj_M) : Prop := (∀ k, 4 ≤ k → k ≤ 9 → M'.1 pl' k = M.1 pl k) ∧ (∀ k, ¬ (4 ≤ k ∧ k ≤ 9) → M'.1 pl' k = M.1 pl' k) ∧ (∀ t, t < 8 → ∀ w, w < 9 → M'.1 (tr' t) w = M.1 (tr t) w) ∧ (∀ t, t < 8 → ∀ w, w < 12 → M'.1 (br' t) w = M.1 (br t) w) ∧ (∀ w, w < 12 → M'.1 wa' w = M.1 wa w) ∧ (∀ s, s < 8 → M'.2.1 na' s = M.2.1 na s) ∧ M'.2.2 = M.2.2 ∧ (∀ a, a ≠ na' → M'.2.1 a = M.2.1 a) ∧ (∀ a, a ≠ pl' → a ≠ wa' → (∀ t, t < 8 → a ≠ tr' t) → (∀ t, t < 8 → a ≠ br' t) → M'.1 a = M.1 a)
section CP
variable {G : mj_G} {M0 : mj_M} {pl na ta ba wa pl' na' ta' ba' wa' : Nat} {tr br tr' br' : Nat → Nat} {d : Nat} {Q : mj_P}
theorem r_cp_loop (hB : rv_K G M0 pl na ta ba wa tr br) (hA : rv_K G M0 pl' na' ta' ba' wa' tr' br') (hp : rv_ap pl na wa pl' na' wa' tr br tr' br') : ∀ (f t : Nat) (M : mj_M) (cb sb : Nat), t + f = 8 → M.2.2 = M0.2.2 → M.2.1 = M0.2.1 → (∀ a, (∀ s, s < 8 → a ≠ tr' s) → (∀ s, s < 8 → a ≠ br' s) → M.1 a = M0.1 a) → (∀ s, s < t → (∀ w, w < 9 → M.1 (tr' s) w = M0.1 (tr s) w) ∧ (∀ w, w < 12 → M.1 (br' s) w = M0.1 (br s) w)) → (∀ M', M'.2.2 = M0.2.2 → M'.2.1 = M0.2.1 → (∀ a, (∀ s, s < 8 → a ≠ tr' s) → (∀ s, s < 8 → a ≠ br' s) → M'.1 a = M0.1 a) → (∀ s, s < 8 → (∀ w, w < 9 → M'.1 (tr' s) w = M0.1 (tr s) w) ∧ (∀ w, w < 12 → M'.1 (br' s) w = M0.1 (br s) w)) → wz d mt_X3_copy.2.2.2.2.1 Q (mt_X3_copy.2.2.2.2.1.drop 39) [some (.inr (.inr (some pl'))), some (.inr (.inr (some pl))), some (.inl 8)] [] G M' cb sb) → wz d mt_X3_copy.2.2.2.2.1 Q (mt_X3_copy.2.2.2.2.1.drop 10) [some (.inr (.inr (some pl'))), some (.inr (.inr (some pl))), some (.inl (t : Int))] [] G M cb sb := by
  obtain ⟨gpl, gna, gta, gba, gwa, gtr, gbr, itr, ibr, b0, b1, b2, b3, bt, bb⟩ := hB
  obtain ⟨gpl', gna', gta', gba', gwa', gtr', gbr', itr', ibr', a0, a1, a2, a3, at', ab'⟩ := hA
  obtain ⟨p1, p2, p3, p4, p5⟩ := hp
  intro f
  induction f with
  | zero =>
    intro t M cb sb hk e2 e1 e0 hz kk
    have e : t = 8 := by omega
    subst e
    refine w_iln rfl ?_
    refine w_bp ?_
    refine w_cmge (fun c => ?_) (fun c => by exfalso; omega)
    exact kk M e2 e1 e0 hz
  | succ f ih =>
    intro t M cb sb hk e2 e1 e0 hz kk
    have ht : t < 8 := by omega
    have tt : ((t : Int)).toNat = t := by omega
    refine w_iln rfl ?_
    refine w_bp ?_
    refine w_cmge (fun c => by exfalso; omega) (fun c => ?_)
    refine w_aln rfl ?_
    refine w_gr gpl rfl (by decide) rfl (by rw [e2]; exact b1) ?_
    refine w_iln rfl ?_
    refine w_aald (b := tr t) gta rfl (by omega) (by show (t : Int) < ((8 : Nat) : Int); omega) (by rw [e2, tt]; exact bt t ht) ?_
    refine w_ic ?_
    refine w_aln rfl ?_
    refine w_gr gpl' rfl (by decide) rfl (by rw [e2]; exact a1) ?_
    refine w_iln rfl ?_
    refine w_aald (b := tr' t) gta' rfl (by omega) (by show (t : Int) < ((8 : Nat) : Int); omega) (by rw [e2, tt]; exact at' t ht) ?_
    refine w_ic ?_
    refine w_bp ?_
    refine w_cp0 (gtr t ht) rfl (gtr' t ht) rfl (by decide) (by decide) (by decide) (by decide) (by decide) (by decide) (Nat.zero_le 8) ?_
    refine w_aln rfl ?_
    refine w_gr gpl rfl (by decide) rfl (by show M.2.2 pl 2 = _; rw [e2]; exact b2) ?_
    refine w_iln rfl ?_
    refine w_aald (b := br t) gba rfl (by omega) (by show (t : Int) < ((8 : Nat) : Int); omega) (by show M.2.2 ba _ = _; rw [e2, tt]; exact bb t ht) ?_
    refine w_ic ?_
    refine w_aln rfl ?_
    refine w_gr gpl' rfl (by decide) rfl (by show M.2.2 pl' 2 = _; rw [e2]; exact a2) ?_
    refine w_iln rfl ?_
    refine w_aald (b := br' t) gba' rfl (by omega) (by show (t : Int) < ((8 : Nat) : Int); omega) (by show M.2.2 ba' _ = _; rw [e2, tt]; exact ab' t ht) ?_
    refine w_ic ?_
    refine w_bp ?_
    refine w_cp0 (gbr t ht) rfl (gbr' t ht) rfl (by decide) (by decide) (by decide) (by decide) (by decide) (by decide) (Nat.zero_le 8) ?_
    refine w_ii rfl ⟨by omega, by omega⟩ ?_
    refine w_goto ?_
    have fr : ∀ a, a ≠ tr' t → a ≠ br' t → (mj_cp0 (mj_cp0 M (tr t) (tr' t) 0 0 9) (br t) (br' t) 0 0 12).1 a = M.1 a := fun a n1 n2 => (cp0_o n2).trans (cp0_o n1)
    refine ih (t + 1) (mj_cp0 (mj_cp0 M (tr t) (tr' t) 0 0 9) (br t) (br' t) 0 0 12) _ _ (by omega) e2 e1 (fun a n1 n2 => (fr a (n1 t ht) (n2 t ht)).trans (e0 a n1 n2)) (fun s hs => ?_) kk
    by_cases c1 : s = t
    · subst c1
      refine ⟨fun w hw => ?_, fun w hw => ?_⟩
      · rw [cp0_o (hn_ne (gtr' s ht) (gbr' s ht) (by decide)), cp0_i hw]
        exact congrFun (e0 _ (fun q hq => p4 s q ht hq) (fun q hq => hn_ne (gtr s ht) (gbr' q hq) (by decide))) w
      · rw [cp0_i hw, cp0_o (hn_ne (gbr s ht) (gtr' s ht) (by decide))]
        exact congrFun (e0 _ (fun q hq => hn_ne (gbr s ht) (gtr' q hq) (by decide)) (fun q hq => p5 s q ht hq)) w
    · have hs8 : s < 8 := by omega
      obtain ⟨z1, z2⟩ := hz s (by omega)
      refine ⟨fun w hw => ?_, fun w hw => ?_⟩
      · rw [fr _ (fun e => c1 (itr' s t hs8 ht e)) (hn_ne (gtr' s hs8) (gbr' t ht) (by decide))]; exact z1 w hw
      · rw [fr _ (hn_ne (gbr' s hs8) (gtr' t ht) (by decide)) (fun e => c1 (ibr' s t hs8 ht e))]; exact z2 w hw
theorem r_X3_copy {M : mj_M} (hB : rv_K G M pl na ta ba wa tr br) (hA : rv_K G M pl' na' ta' ba' wa' tr' br') (hp : rv_ap pl na wa pl' na' wa' tr br tr' br') (hQ : ∀ M', rv_cp pl na wa pl' na' wa' tr br tr' br' M M' → Q none G M') : mj_R mj_tab (d + 1) 32 [.inr (.inr (some pl')), .inr (.inr (some pl))] G M Q := by
  obtain ⟨gpl, gna, gta, gba, gwa, gtr, gbr, itr, ibr, b0, b1, b2, b3, bt, bb⟩ := id hB
  obtain ⟨gpl', gna', gta', gba', gwa', gtr', gbr', itr', ibr', a0, a1, a2, a3, at', ab'⟩ := id hA
  obtain ⟨p1, p2, p3, p4, p5⟩ := id hp
  refine ⟨Nat.le_of_ble_eq_true rfl, ?_⟩
  show wz d mt_X3_copy.2.2.2.2.1 Q mt_X3_copy.2.2.2.2.1 [some (.inr (.inr (some pl'))), some (.inr (.inr (some pl))), none] [] G M _ _
  refine w_aln rfl ?_
  refine w_gr gpl rfl (by decide) rfl b0 ?_
  refine w_ic ?_
  refine w_aln rfl ?_
  refine w_gr gpl' rfl (by decide) rfl a0 ?_
  refine w_ic ?_
  refine w_bp ?_
  refine w_cp1 gna rfl gna' rfl (by decide) (by decide) (by decide) (by decide) (by decide) (by decide) (Nat.zero_le 8) ?_
  refine w_ic ?_
  refine w_isn ?_
  have kB : rv_K G (mj_cp1 M na na' 0 0 8) pl na ta ba wa tr br := hB
  have kA : rv_K G (mj_cp1 M na na' 0 0 8) pl' na' ta' ba' wa' tr' br' := hA
  refine r_cp_loop kB kA hp 8 0 (mj_cp1 M na na' 0 0 8) _ _ (by omega) rfl rfl (fun _ _ _ => rfl) (fun s hs => absurd hs (Nat.not_lt_zero s)) (fun M1 e2 e1 e0 hz => ?_)
  have e0' : ∀ a, (∀ s, s < 8 → a ≠ tr' s) → (∀ s, s < 8 → a ≠ br' s) → M1.1 a = M.1 a := e0
  refine w_aln rfl ?_
  refine w_gr gpl rfl (by decide) rfl (by rw [e2]; exact b3) ?_
  refine w_ic ?_
  refine w_aln rfl ?_
  refine w_gr gpl' rfl (by decide) rfl (by rw [e2]; exact a3) ?_
  refine w_ic ?_
  refine w_bp ?_
  refine w_cp0 gwa rfl gwa' rfl (by decide) (by decide) (by decide) (by decide) (by decide) (by decide) (Nat.zero_le 8) ?_
  have hpl : M1.1 pl = M.1 pl := e0' pl (fun s hs => hn_ne gpl (gtr' s hs) (by decide)) (fun s hs => hn_ne gpl (gbr' s hs) (by decide))
  have hpl' : M1.1 pl' = M.1 pl' := e0' pl' (fun s hs => hn_ne gpl' (gtr' s hs) (by decide)) (fun s hs => hn_ne gpl' (gbr' s hs) (by decide))
  have hwa : M1.1 wa = M.1 wa := e0' wa (fun s hs => hn_ne gwa (gtr' s hs) (by decide)) (fun s hs => hn_ne gwa (gbr' s hs) (by decide))
  have q0 : ∀ k, (mj_cp0 M1 wa wa' 0 0 12).1 pl k = M.1 pl k := fun k => congrFun ((cp0_o (hn_ne gpl gwa' (by decide))).trans hpl) k
  refine w_aln rfl ?_
  refine w_aln rfl ?_
  refine w_gi gpl rfl (by decide) rfl (v := M.1 pl 4) (q0 4) ?_
  refine w_pi gpl' rfl (by decide) rfl (fun q => by cases q) ?_
  refine w_aln rfl ?_
  refine w_aln rfl ?_
  refine w_gi gpl rfl (by decide) rfl (v := M.1 pl 5) ((hn_n (Or.inl p1)).trans (q0 5)) ?_
  refine w_pi gpl' rfl (by decide) rfl (fun q => by cases q) ?_
  refine w_aln rfl ?_
  refine w_aln rfl ?_
  refine w_gi gpl rfl (by decide) rfl (v := M.1 pl 6) ((hn_n (Or.inl p1)).trans ((hn_n (Or.inl p1)).trans (q0 6))) ?_
  refine w_pi gpl' rfl (by decide) rfl (fun q => by cases q) ?_
  refine w_aln rfl ?_
  refine w_aln rfl ?_
  refine w_gi gpl rfl (by decide) rfl (v := M.1 pl 7) ((hn_n (Or.inl p1)).trans ((hn_n (Or.inl p1)).trans ((hn_n (Or.inl p1)).trans (q0 7)))) ?_
  refine w_pi gpl' rfl (by decide) rfl (fun q => by cases q) ?_
  refine w_aln rfl ?_
  refine w_aln rfl ?_
  refine w_gi gpl rfl (by decide) rfl (v := M.1 pl 8) ((hn_n (Or.inl p1)).trans ((hn_n (Or.inl p1)).trans ((hn_n (Or.inl p1)).trans ((hn_n (Or.inl p1)).trans (q0 8))))) ?_
  refine w_pi gpl' rfl (by decide) rfl (fun q => by cases q) ?_
  refine w_aln rfl ?_
  refine w_aln rfl ?_
  refine w_gi gpl rfl (by decide) rfl (v := M.1 pl 9) ((hn_n (Or.inl p1)).trans ((hn_n (Or.inl p1)).trans ((hn_n (Or.inl p1)).trans ((hn_n (Or.inl p1)).trans ((hn_n (Or.inl p1)).trans (q0 9)))))) ?_
  refine w_pi gpl' rfl (by decide) rfl (fun q => by cases q) ?_
  have r1 : ∀ a, a ≠ pl' → (mj_p0 (mj_p0 (mj_p0 (mj_p0 (mj_p0 (mj_p0 (mj_cp0 M1 wa wa' 0 0 12) pl' 4 (M.1 pl 4)) pl' 5 (M.1 pl 5)) pl' 6 (M.1 pl 6)) pl' 7 (M.1 pl 7)) pl' 8 (M.1 pl 8)) pl' 9 (M.1 pl 9)).1 a = (mj_cp0 M1 wa wa' 0 0 12).1 a := fun a ha => (wz_c ha).trans ((wz_c ha).trans ((wz_c ha).trans ((wz_c ha).trans ((wz_c ha).trans (wz_c ha)))))
  refine w_ret (hQ _ ⟨fun k k1 k2 => ?_, fun k hk => ?_, fun t ht w hw => ?_, fun t ht w hw => ?_, fun w hw => ?_, fun s hs => ?_, e2, fun a ha => ?_, fun a n1 n2 n3 n4 => ?_⟩)
  · have : k = 4 ∨ k = 5 ∨ k = 6 ∨ k = 7 ∨ k = 8 ∨ k = 9 := by omega
    rcases this with rfl | rfl | rfl | rfl | rfl | rfl
    · exact (hn_n (Or.inr (by decide))).trans ((hn_n (Or.inr (by decide))).trans ((hn_n (Or.inr (by decide))).trans ((hn_n (Or.inr (by decide))).trans ((hn_n (Or.inr (by decide))).trans (hn_s)))))
    · exact (hn_n (Or.inr (by decide))).trans ((hn_n (Or.inr (by decide))).trans ((hn_n (Or.inr (by decide))).trans ((hn_n (Or.inr (by decide))).trans (hn_s))))
    · exact (hn_n (Or.inr (by decide))).trans ((hn_n (Or.inr (by decide))).trans ((hn_n (Or.inr (by decide))).trans (hn_s)))
    · exact (hn_n (Or.inr (by decide))).trans ((hn_n (Or.inr (by decide))).trans (hn_s))
    · exact (hn_n (Or.inr (by decide))).trans (hn_s)
    · exact hn_s
  · exact (hn_n (Or.inr (by omega))).trans ((hn_n (Or.inr (by omega))).trans ((hn_n (Or.inr (by omega))).trans ((hn_n (Or.inr (by omega))).trans ((hn_n (Or.inr (by omega))).trans ((hn_n (Or.inr (by omega))).trans ((congrFun (cp0_o (hn_ne gpl' gwa' (by decide))) k).trans (congrFun hpl' k)))))))
  · exact (congrFun (r1 _ (hn_ne (gtr' t ht) gpl' (by decide))) w).trans ((congrFun (cp0_o (hn_ne (gtr' t ht) gwa' (by decide))) w).trans ((hz t ht).1 w hw))
  · exact (congrFun (r1 _ (hn_ne (gbr' t ht) gpl' (by decide))) w).trans ((congrFun (cp0_o (hn_ne (gbr' t ht) gwa' (by decide))) w).trans ((hz t ht).2 w hw))
  · exact (congrFun (r1 _ (hn_ne gwa' gpl' (by decide))) w).trans ((cp0_i hw).trans (congrFun hwa w))
  · show M1.2.1 na' s = _
    rw [e1]; exact cp1_i hs
  · show M1.2.1 a = _
    rw [e1]; exact cp1_o ha
  · exact (r1 a n1).trans ((cp0_o n2).trans (e0' a n3 n4))
end CP
theorem lw_R2g {G : mj_G} {o o' t t' n : Nat} {f : Nat → Int} (ho : G o = (t, 0)) (ho' : G o' = (t', 0)) (h0 : t ≠ 0) (h1 : t ≠ 1) (h50 : t ≠ 50) (h0' : t' ≠ 0) (h1' : t' ≠ 1) (h50' : t' ≠ 50) : ab_RR (n, f, 2, lw_w2 o o') G [(t, 0), (t', 0)] := ⟨rfl, fun i q h => by
  cases i with
  | zero =>
    cases h
    exact Or.inr (Or.inr (Or.inr ⟨h0, h1, h50, o, rfl, ho⟩))
  | succ i => cases i with
    | zero =>
      cases h
      exact Or.inr (Or.inr (Or.inr ⟨h0', h1', h50', o', rfl, ho'⟩))
    | succ i => cases h⟩
/-- a contract of two objects that answers nothing -/
theorem lw_cc {c : ab_co} {t t' o o' dd : Nat} {G : mj_G} {M : mj_M} {Q : mj_P} (hok : ab_ok c) (hp : ab_p c = ([], [(t, 0), (t', 0)], [], [some (.inr (.inr 0)), some (.inr (.inr 1))])) (hd : ab_h c ≤ dd) (ho : G o = (t, 0)) (ho' : G o' = (t', 0)) (h0 : t ≠ 0) (h1 : t ≠ 1) (h50 : t ≠ 50) (h0' : t' ≠ 0) (h1' : t' ≠ 1) (h50' : t' ≠ 50) (hr : (ab_o c).all (fun po => po.1.isNone) = true) (hI : ab_Inv G M) (hQ : ∀ M', ab_Inv G M' → ab_frm (ab_w c) G M M' → Q none G M') : mj_R mj_tab (dd + 1) (ab_y c) [.inr (.inr (some o)), .inr (.inr (some o'))] G M Q := by
  refine hok dd hd G M (0, hn_g [], 2, lw_w2 o o') _ Q (by rw [hp]; exact hn_Y0) (by rw [hp]; exact lw_R2g ho ho' h0 h1 h50 h0' h1' h50') (by rw [hp]; exact fun e he => by cases he) (by rw [hp]; exact ⟨_, _, rfl, ⟨Nat.le_of_ble_eq_true rfl, rfl⟩, _, _, rfl, ⟨Nat.le_of_ble_eq_true rfl, rfl⟩, rfl⟩) hI (fun r M' i f ⟨po, hpo, h⟩ => ?_)
  have hn := List.all_eq_true.mp hr po hpo
  obtain ⟨p, ms⟩ := po
  cases p with
  | some p => cases hn
  | none =>
    have hr : r = none := h.1
    rw [hr]; exact hQ M' i f
end
