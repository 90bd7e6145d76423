/-! ===== the reference's plain (laid by a program) ===== -/
theorem rv_bt_00 (k j : Nat) (hk : k < 32) (hj : j < 32) : rv_bt 0 (k : Int) = rv_bt 0 (j : Int) := by
  have h : ∀ i : Fin 32, rv_bt 0 (i.val : Int) = 0 := by decide +kernel
  rw [h ⟨k, hk⟩, h ⟨j, hj⟩]
def rv_R0 (M0 : mj_M) (n lim m bt ha hd ns rs sx : Nat) (q : Nat) (PL WA OA : Nat → Int) (TO BI : Nat → Nat → Int) (nm : Nat → List Int) (b g z r : Int) (M : mj_M) : Prop :=
  (M.1 m 3 = (n : Int) ∧ M.1 m 5 = (lim : Int) ∧ M.1 m 21 = PL 5 ∧ M.1 m 22 = PL 11 ∧ (∀ k : Nat, k < 3 → rv_bt (M.1 m 20) (k : Int) = PL (12 + k)) ∧ M.1 m 18 = g ∧ M.1 m 24 = z ∧ M.1 m 19 = r) ∧ M.1 m 4 = (q : Int) ∧ rv_H (M.1 ha) PL WA TO BI ∧ (∀ s k : Nat, s < 4 → k < 8 → rv_bt (M.1 hd s) (k : Int) = rv_bt (OA k) ((s + 4 : Nat) : Int)) ∧ (∀ k : Nat, (k : Int) < b → M.2.1 ns (8 + k) = rv_8 (nm k) ∧ rv_wo (nm k)) ∧ M.2.2 = M0.2.2 ∧ M.2.1 rs = M0.2.1 rs ∧ M.1 bt = M0.1 bt ∧ rv_sw M0 sx m ha M
theorem r_nxt0 {G : mj_G} {M0 M : mj_M} {B : Nat → Int} {n lim m bt ha hd ns rs sx : Nat} {PL WA OA : Nat → Int} {TO BI : Nat → Nat → Int} {nm : Nat → List Int} {b g z r : Int} {d q : Nat} {Q : mj_P} (hB : rv_B G M0 B n lim m bt ha hd ns rs sx) (h : rv_R0 M0 n lim m bt ha hd ns rs sx q PL WA OA TO BI nm b g z r M) (hq : q ≤ n) (hQ : ∀ M', rv_R M0 n lim m bt ha hd ns rs sx (rv_T B n lim q) PL WA OA TO BI nm b g z r M' → Q none G M') : mj_R mj_tab (d + 2) 216 [.inr (.inr (some m))] G M Q := by
  obtain ⟨gm, gbt, gha, ghd, gns, grs, r1, r7, r23, r9, r10, rb, rr, n1, n2, gsx, r6⟩ := hB
  obtain ⟨⟨h3, h5, h21, h22, h20, h18, h24, h19⟩, ht, hh, hd1, hn, e1, e2, e3, e4⟩ := h
  refine r_X12_next (d := d) (B := B) (n := n) (lim := lim) (p := q) gm gbt n1 (by rw [e1]; exact r1) h3 h5 ht (fun k => by rw [e3]; exact rb k) (fun M' hM => hQ M' ?_)
  obtain ⟨o1, o2, o3, -⟩ := id hM
  have oc : ∀ a, a ≠ m → M'.1 a = M.1 a := fun a ha => funext fun k => o1 a k (fun e => ha e.1)
  have om : ∀ k, ¬ k ∈ [4, 11, 12, 13, 14] → M'.1 m k = M.1 m k := fun k hk => o1 m k (fun e => hk e.2)
  have ol : ∀ a, a ≠ m → M'.2.1 a = M.2.1 a := fun a ha => funext fun k => o2 a k (fun e => ha e.1)
  refine ⟨⟨(om 3 (by decide)).trans h3, (om 5 (by decide)).trans h5, (om 21 (by decide)).trans h21, (om 22 (by decide)).trans h22, fun k hk => by rw [om 20 (by decide)]; exact h20 k hk, (om 18 (by decide)).trans h18, (om 24 (by decide)).trans h24, (om 19 (by decide)).trans h19⟩, rv_tq_of (rv_T_w hq).1 (rv_nx_T hq hM), by rw [oc ha (hn_ne gha gm (by decide))]; exact hh, fun s k a c => by rw [oc hd (hn_ne ghd gm (by decide))]; exact hd1 s k a c, fun k hk => ⟨(congrFun (ol ns (hn_ne gns gm (by decide))) _).trans (hn k hk).1, (hn k hk).2⟩, o3.trans e1, (ol rs (hn_ne grs gm (by decide))).trans e2, (oc bt (hn_ne gbt gm (by decide))).trans e3, e4.c oc om ol (hn_ne gsx gm (by decide)) (hn_ne gha gm (by decide))⟩
theorem r_zhd {G : mj_G} {M0 : mj_M} {m hd : Nat} {d : Nat} {Q : mj_P} (gm : G m = (1012, 0)) (gc : G hd = (56100, 4)) (e0 : M0.2.2 m 23 = some hd) : ∀ (f k : Nat) (M : mj_M) (cb sb : Nat), k + f = 4 → M.2 = M0.2 → (∀ a, a ≠ hd → M.1 a = M0.1 a) → (∀ j, j < k → M.1 hd j = 0) → (∀ M', M'.2 = M0.2 → (∀ a, a ≠ hd → M'.1 a = M0.1 a) → (∀ j, j < 4 → M'.1 hd j = 0) → wz d mt_X12_plain.2.2.2.2.1 Q (mt_X12_plain.2.2.2.2.1.drop 33) [some (.inr (.inr (some m))), some (.inl 4)] [] G M' cb sb) → wz d mt_X12_plain.2.2.2.2.1 Q (mt_X12_plain.2.2.2.2.1.drop 23) [some (.inr (.inr (some m))), some (.inl (k : Int))] [] G M cb sb := by
  intro f
  induction f with
  | zero =>
    intro k M cb sb hk h2 h1 hz kk
    have e : k = 4 := by omega
    subst e
    refine w_iln rfl ?_
    refine w_ic ?_
    refine w_cmge (fun c => ?_) (fun c => by exfalso; omega)
    exact kk M h2 h1 hz
  | succ f ih =>
    intro k M cb sb hk h2 h1 hz kk
    refine w_iln rfl ?_
    refine w_ic ?_
    refine w_cmge (fun c => by exfalso; omega) (fun c => ?_)
    refine w_aln rfl ?_
    refine w_gr gm rfl (by decide) rfl (by rw [h2]; exact e0) ?_
    refine w_iln rfl ?_
    refine w_ic ?_
    refine w_iast gc rfl (by decide) (by omega) (by show (k : Int) < ((4 : Nat) : Int); omega) ?_
    refine w_ii rfl ⟨by omega, by omega⟩ ?_
    refine w_goto ?_
    refine ih (k + 1) _ _ _ (by omega) h2 (fun a a1 => (wz_c a1).trans (h1 a a1)) (fun j hj => ?_) kk
    rw [show ((k : Int)).toNat = k by omega]
    rcases Nat.lt_or_ge j k with q | q
    · exact (hn_n (Or.inr (by omega))).trans (hz j q)
    · rw [show j = k by omega]; exact hn_s
theorem r_zha {G : mj_G} {M0 : mj_M} {m ha : Nat} {d : Nat} {Q : mj_P} (gm : G m = (1012, 0)) (gc : G ha = (52100, 221)) (e0 : M0.2.2 m 7 = some ha) : ∀ (f k : Nat) (M : mj_M) (cb sb : Nat), k + f = 221 → M.2 = M0.2 → (∀ a, a ≠ ha → M.1 a = M0.1 a) → (∀ j, j < k → M.1 ha j = 0) → (∀ M', M'.2 = M0.2 → (∀ a, a ≠ ha → M'.1 a = M0.1 a) → (∀ j, j < 221 → M'.1 ha j = 0) → wz d mt_X12_plain.2.2.2.2.1 Q (mt_X12_plain.2.2.2.2.1.drop 45) [some (.inr (.inr (some m))), some (.inl 221)] [] G M' cb sb) → wz d mt_X12_plain.2.2.2.2.1 Q (mt_X12_plain.2.2.2.2.1.drop 35) [some (.inr (.inr (some m))), some (.inl (k : Int))] [] G M cb sb := by
  intro f
  induction f with
  | zero =>
    intro k M cb sb hk h2 h1 hz kk
    have e : k = 221 := by omega
    subst e
    refine w_iln rfl ?_
    refine w_sp ?_
    refine w_cmge (fun c => ?_) (fun c => by exfalso; omega)
    exact kk M h2 h1 hz
  | succ f ih =>
    intro k M cb sb hk h2 h1 hz kk
    refine w_iln rfl ?_
    refine w_sp ?_
    refine w_cmge (fun c => by exfalso; omega) (fun c => ?_)
    refine w_aln rfl ?_
    refine w_gr gm rfl (by decide) rfl (by rw [h2]; exact e0) ?_
    refine w_iln rfl ?_
    refine w_ic ?_
    refine w_iast gc rfl (by decide) (by omega) (by show (k : Int) < ((221 : Nat) : Int); omega) ?_
    refine w_ii rfl ⟨by omega, by omega⟩ ?_
    refine w_goto ?_
    refine ih (k + 1) _ _ _ (by omega) h2 (fun a a1 => (wz_c a1).trans (h1 a a1)) (fun j hj => ?_) kk
    rw [show ((k : Int)).toNat = k by omega]
    rcases Nat.lt_or_ge j k with q | q
    · exact (hn_n (Or.inr (by omega))).trans (hz j q)
    · rw [show j = k by omega]; exact hn_s
theorem rv_H.cg {H H' PL WA : Nat → Int} {TO BI : Nat → Nat → Int} (h : rv_H H PL WA TO BI) (e : ∀ k, k < 221 → H' k = H k) : rv_H H' PL WA TO BI := by
  obtain ⟨a0, a1, a2, a3, a4, a5, a6⟩ := h
  exact ⟨(e 0 (by decide)).trans a0, (e 1 (by decide)).trans a1, (e 2 (by decide)).trans a2, (e 3 (by decide)).trans a3, fun t w ht hw => (e _ (by omega)).trans (a4 t w ht hw), fun w hw => (e _ (by omega)).trans (a5 w hw), fun t w ht hw => ⟨(e _ (by omega)).trans (a6 t w ht hw).1, (a6 t w ht hw).2⟩⟩
theorem r_cps {G : mj_G} {M0 : mj_M} {m ha sx : Nat} {d : Nat} {Q : mj_P} (gm : G m = (1012, 0)) (gh : G ha = (52100, 221)) (gs : G sx = (51100, 537)) (e6 : M0.2.2 m 6 = some sx) (e7 : M0.2.2 m 7 = some ha) : ∀ (f k : Nat) (M : mj_M) (cb sb : Nat), k + f = 537 → M.2 = M0.2 → (∀ a, a ≠ sx → M.1 a = M0.1 a) → (∀ j, j < k → j < 221 → M.1 sx j = M0.1 ha j) → (∀ j, j < k → 221 ≤ j → M.1 sx j = 0) → (∀ M', M'.2 = M0.2 → (∀ a, a ≠ sx → M'.1 a = M0.1 a) → (∀ j, j < 221 → M'.1 sx j = M0.1 ha j) → (∀ j, j < 537 → 221 ≤ j → M'.1 sx j = 0) → wz d mt_X12_plain.2.2.2.2.1 Q (mt_X12_plain.2.2.2.2.1.drop 94) [some (.inr (.inr (some m))), some (.inl 537)] [] G M' cb sb) → wz d mt_X12_plain.2.2.2.2.1 Q (mt_X12_plain.2.2.2.2.1.drop 76) [some (.inr (.inr (some m))), some (.inl (k : Int))] [] G M cb sb := by
  have ns : ha ≠ sx := hn_ne gh gs (by decide)
  intro f
  induction f with
  | zero =>
    intro k M cb sb hk h2 h1 h3 h4 kk
    have e : k = 537 := by omega
    subst e
    refine w_iln rfl ?_
    refine w_sp ?_
    refine w_cmge (fun c => ?_) (fun c => by exfalso; omega)
    exact kk M h2 h1 (fun j hj => h3 j (by omega) hj) h4
  | succ f ih =>
    intro k M cb sb hk h2 h1 h3 h4 kk
    refine w_iln rfl ?_
    refine w_sp ?_
    refine w_cmge (fun c => by exfalso; omega) (fun c => ?_)
    refine w_aln rfl ?_
    refine w_gr gm rfl (by decide) rfl (by rw [h2]; exact e6) ?_
    refine w_iln rfl ?_
    refine w_iln rfl ?_
    refine w_sp ?_
    have tk : ((k : Int)).toNat = k := by omega
    refine w_cmge (fun c2 => ?_) (fun c2 => ?_)
    · refine w_ic ?_
      refine w_iast gs rfl (by decide) (by omega) (by show (k : Int) < ((537 : Nat) : Int); omega) ?_
      refine w_ii rfl ⟨by omega, by omega⟩ ?_
      refine w_goto ?_
      rw [tk]
      refine ih (k + 1) _ _ _ (by omega) h2 (fun a a1 => (wz_c a1).trans (h1 a a1)) (fun j hj h => (hn_n (Or.inr (by omega))).trans (h3 j (by omega) h)) (fun j hj h => ?_) kk
      rcases Nat.lt_or_ge j k with q | q
      · exact (hn_n (Or.inr (by omega))).trans (h4 j q h)
      · rw [show j = k by omega]; exact hn_s
    · refine w_aln rfl ?_
      refine w_gr gm rfl (by decide) rfl (by rw [h2]; exact e7) ?_
      refine w_iln rfl ?_
      refine w_iald (v := M0.1 ha k) gh rfl (by omega) (by show (k : Int) < ((221 : Nat) : Int); omega) (by rw [tk, h1 ha ns]) ?_
      refine w_goto ?_
      refine w_iast gs rfl (by decide) (by omega) (by show (k : Int) < ((537 : Nat) : Int); omega) ?_
      refine w_ii rfl ⟨by omega, by omega⟩ ?_
      refine w_goto ?_
      rw [tk]
      refine ih (k + 1) _ _ _ (by omega) h2 (fun a a1 => (wz_c a1).trans (h1 a a1)) (fun j hj h => ?_) (fun j hj h => (hn_n (Or.inr (by omega))).trans (h4 j (by omega) h)) kk
      rcases Nat.lt_or_ge j k with q | q
      · exact (hn_n (Or.inr (by omega))).trans (h3 j q h)
      · rw [show j = k by omega]; exact hn_s
theorem r_cpn {G : mj_G} {M0 : mj_M} {m ns : Nat} {d : Nat} {Q : mj_P} (gm : G m = (1012, 0)) (gn : G ns = (54103, 16)) (e9 : M0.2.2 m 9 = some ns) : ∀ (f k : Nat) (M : mj_M) (cb sb : Nat), k + f = 8 → M.1 = M0.1 → M.2.2 = M0.2.2 → (∀ a, a ≠ ns → M.2.1 a = M0.2.1 a) → (∀ j, j < k → M.2.1 ns j = M0.2.1 ns (8 + j)) → (∀ j, 8 ≤ j → M.2.1 ns j = M0.2.1 ns j) → (∀ M', M'.1 = M0.1 → M'.2.2 = M0.2.2 → (∀ a, a ≠ ns → M'.2.1 a = M0.2.1 a) → (∀ j, j < 8 → M'.2.1 ns j = M0.2.1 ns (8 + j)) → wz d mt_X12_plain.2.2.2.2.1 Q (mt_X12_plain.2.2.2.2.1.drop 111) [some (.inr (.inr (some m))), some (.inl 8)] [] G M' cb sb) → wz d mt_X12_plain.2.2.2.2.1 Q (mt_X12_plain.2.2.2.2.1.drop 96) [some (.inr (.inr (some m))), some (.inl (k : Int))] [] G M cb sb := by
  intro f
  induction f with
  | zero =>
    intro k M cb sb hk h1 h2 h3 h4 h5 kk
    have e : k = 8 := by omega
    subst e
    refine w_iln rfl ?_
    refine w_bp ?_
    refine w_cmge (fun c => ?_) (fun c => by exfalso; omega)
    exact kk M h1 h2 h3 h4
  | succ f ih =>
    intro k M cb sb hk h1 h2 h3 h4 h5 kk
    have tk : ((k : Int)).toNat = k := by omega
    refine w_iln rfl ?_
    refine w_bp ?_
    refine w_cmge (fun c => by exfalso; omega) (fun c => ?_)
    refine w_aln rfl ?_
    refine w_gr gm rfl (by decide) rfl (by rw [h2]; exact e9) ?_
    refine w_iln rfl ?_
    refine w_aln rfl ?_
    refine w_gr gm rfl (by decide) rfl (by rw [h2]; exact e9) ?_
    refine w_bp ?_
    refine w_iln rfl ?_
    refine w_add ⟨by omega, by omega⟩ ?_
    refine w_lald (v := M0.2.1 ns (8 + k)) gn rfl (by omega) (by show (8 : Int) + (k : Int) < ((16 : Nat) : Int); omega) (by rw [show ((8 : Int) + (k : Int)).toNat = 8 + k by omega]; exact h5 _ (by omega)) ?_
    refine w_last gn rfl (by decide) (by omega) (by show (k : Int) < ((16 : Nat) : Int); omega) ?_
    refine w_ii rfl ⟨by omega, by omega⟩ ?_
    refine w_goto ?_
    rw [tk]
    refine ih (k + 1) _ _ _ (by omega) h1 h2 (fun a ha => (funext fun j => wz_nl (Or.inl ha)).trans (h3 a ha)) (fun j hj => ?_) (fun j hj => (wz_nl (Or.inr (by omega))).trans (h5 j hj)) kk
    rcases Nat.lt_or_ge j k with q | q
    · exact (wz_nl (Or.inr (by omega))).trans (h4 j q)
    · rw [show j = k by omega]; exact wz_sl
/-- the reference's state behind a plain() that reads a PLAIN -/
def rv_QO (sx ns : Nat) (PL WA : Nat → Int) (TO BI : Nat → Nat → Int) (nm : Nat → List Int) (M' : mj_M) : Prop := rv_H (M'.1 sx) PL WA TO BI ∧ (∀ k : Nat, (k : Int) < PL 4 → M'.2.1 ns k = rv_8 (nm k) ∧ rv_wo (nm k)) ∧ (∀ j, j < 537 → 184 ≤ j → M'.1 sx j = 0)
/-- what plain that reads tells beside: longs, the PLAIN's number -/
def rv_QX (M0 : mj_M) (m ns : Nat) (M' : mj_M) : Prop := (∀ a, a ≠ m → a ≠ ns → M'.2.1 a = M0.2.1 a) ∧ M'.1 m 26 = (Int32.ofInt (M0.1 m 26) + Int32.ofInt 1).toInt ∧ M'.1 m 25 = (Int32.ofInt (M0.1 m 26) + Int32.ofInt 1).toInt
theorem r_plE {G : mj_G} {M : mj_M} {m ha sx ns : Nat} {d : Nat} {Q : mj_P} {r : Int} {v1 : Option mj_V} {PL WA : Nat → Int} {TO BI : Nat → Nat → Int} {nm : Nat → List Int} (gm : G m = (1012, 0)) (gh : G ha = (52100, 221)) (gs : G sx = (51100, 537)) (gn : G ns = (54103, 16)) (e6 : M.2.2 m 6 = some sx) (e7 : M.2.2 m 7 = some ha) (e9 : M.2.2 m 9 = some ns) (hr : M.1 m 19 = r) (hH : rv_H (M.1 ha) PL WA TO BI) (hp : PL 4 ≤ 8) (hN : ∀ k : Nat, (k : Int) < PL 4 → M.2.1 ns (8 + k) = rv_8 (nm k) ∧ rv_wo (nm k)) (hz0 : ∀ j, 184 ≤ j → j < 221 → M.1 ha j = 0) (hQ : ∀ M', rv_QO sx ns PL WA TO BI nm M' → M'.1 m 28 = 0 ∧ rv_QX M m ns M' → Q (some (.inl r)) G M') (cb sb : Nat) : wz d mt_X12_plain.2.2.2.2.1 Q (mt_X12_plain.2.2.2.2.1.drop 74) [some (.inr (.inr (some m))), some (.inl 221)] [] G M cb sb := by
  refine w_ic ?_
  refine w_isn ?_
  refine r_cps gm gh gs e6 e7 537 0 M _ _ (by omega) rfl (fun _ _ => rfl) (fun j hj => absurd hj (Nat.not_lt_zero j)) (fun j hj => absurd hj (Nat.not_lt_zero j)) (fun M1 h2 h1 h3 h4 => ?_)
  refine w_ic ?_
  refine w_isn ?_
  refine r_cpn (M0 := M1) gm gn (by rw [h2]; exact e9) 8 0 M1 _ _ (by omega) rfl rfl (fun _ _ => rfl) (fun j hj => absurd hj (Nat.not_lt_zero j)) (fun _ _ => rfl) (fun M2 g1 g2 g3 g4 => ?_)
  refine w_aln rfl ?_
  refine w_ic ?_
  refine w_pi gm rfl (by decide) rfl (fun q => by cases q) ?_
  refine w_aln rfl ?_
  refine w_dupr ?_
  refine w_gi gm rfl (by decide) rfl rfl ?_
  refine w_ic ?_
  refine w_addw ?_
  intro z hz ez
  refine w_pi gm rfl (by decide) rfl (fun q => by cases q) ?_
  refine w_aln rfl ?_
  refine w_aln rfl ?_
  refine w_gi gm rfl (by decide) rfl rfl ?_
  refine w_pi gm rfl (by decide) rfl (fun q => by cases q) ?_
  refine w_aln rfl ?_
  refine w_gi gm rfl (by decide) rfl (v := r) ((hn_n (Or.inr (by decide))).trans ((hn_n (Or.inr (by decide))).trans ((hn_n (Or.inr (by decide))).trans (by rw [g1, h1 m (hn_ne gm gs (by decide))]; exact hr)))) ?_
  have sn : sx ≠ m := hn_ne gs gm (by decide)
  refine w_iret (fun q => by cases q) (hQ _ ⟨hH.cg (fun k hk => ?_), fun k hk => ⟨?_, (hN k hk).2⟩, fun j hj h => ?_⟩ ⟨(hn_n (Or.inr (by decide))).trans ((hn_n (Or.inr (by decide))).trans hn_s), ?_, ?_, ?_⟩)
  · exact (hn_n (Or.inl sn)).trans ((hn_n (Or.inl sn)).trans ((hn_n (Or.inl sn)).trans (by rw [g1]; exact h3 k hk)))
  · show M2.2.1 ns k = _
    rw [g4 k (by omega), h2]; exact (hN k hk).1
  · exact (hn_n (Or.inl sn)).trans ((hn_n (Or.inl sn)).trans ((hn_n (Or.inl sn)).trans (by
      rw [g1]
      rcases Nat.lt_or_ge j 221 with q | q
      · rw [h3 j q]; exact hz0 j h q
      · exact h4 j hj q)))
  · intro a a1 a2
    show M2.2.1 a = _
    rw [g3 a a2, h2]
  · refine (hn_n (Or.inr (by decide))).trans (hn_s.trans (ez.trans ?_))
    rw [show (mj_p0 M2 m 28 0).1 m 26 = M.1 m 26 from (hn_n (Or.inr (by decide))).trans (by rw [g1, h1 m (hn_ne gm gs (by decide))])]
  · refine hn_s.trans ?_
    refine hn_s.trans (ez.trans ?_)
    rw [show (mj_p0 M2 m 28 0).1 m 26 = M.1 m 26 from (hn_n (Or.inr (by decide))).trans (by rw [g1, h1 m (hn_ne gm gs (by decide))])]
theorem r_rowsR {G : mj_G} {M0 : mj_M} {B : Nat → Int} {n lim m bt ha hd ns rs sx : Nat} {T : Nat → Nat × Nat × Int × List Int × Nat} {Q : mj_P} {d : Nat} (hB : rv_BT G M0 B n lim m bt ha hd ns rs sx T) : ∀ (f q r : Nat) (PL WA OA : Nat → Int) (TO BI : Nat → Nat → Int) (nm : Nat → List Int) (g z : Int) (M : mj_M) (cb sb : Nat), n < q + f → q ≤ n → r ≤ q → rv_pb PL → rv_R M0 n lim m bt ha hd ns rs sx (T q) PL WA OA TO BI nm (PL 4) g z (r : Int) M → sp_rows T (fun f a => ∀ M', rv_sw M0 sx m ha M' → Q (some (.inl (rv_vf a))) G M') (fun PL WA OA TO BI nm r => ∀ M', rv_QO sx ns PL WA TO BI nm M' → M'.1 m 28 = 0 ∧ rv_QX M0 m ns M' → Q (some (.inl (r : Int))) G M') f PL WA OA TO BI nm r q → wz (d + 6) mt_X12_plain.2.2.2.2.1 Q (mt_X12_plain.2.2.2.2.1.drop 52) [some (.inr (.inr (some m))), some (.inl 221)] [] G M cb sb := by
  obtain ⟨⟨gm, gbt, gha, ghd, gns, grs, r1, r7, r23, r9, r10, rb, rr, n1, n2, gsx, r6⟩, hT⟩ := id hB
  intro f
  induction f with
  | zero => intro q r PL WA OA TO BI nm g z M cb sb g1 g2 g3; exfalso; omega
  | succ f ih =>
    intro q r PL WA OA TO BI nm g z M cb sb g1 g2 g3 hb hS h
    obtain ⟨h0, h5, hr⟩ := h
    have hw := rv_y_w hB g2
    have hk := rv_tkc_f hw.1
    have bad : ∀ (M1 : mj_M) (f : Int) (a cb sb : Nat), rv_FR M0 m sx ha f a M1 → (∀ M', rv_sw M0 sx m ha M' → Q (some (.inl (rv_vf a))) G M') → wz (d + 6) mt_X12_plain.2.2.2.2.1 Q (mt_X12_plain.2.2.2.2.1.drop 62) [some (.inr (.inr (some m))), some (.inl 221)] [] G M1 cb sb := by
      intro M1 f a cb sb hF hQ
      refine w_ic ?_
      refine w_aln rfl ?_
      refine w_gi gm rfl (by decide) rfl hF.2.1 ?_
      refine w_subw ?_
      intro y hy ey
      have ev : y = rv_vf a := ey
      refine w_iret (fun q => by cases q) ?_
      rw [ev]
      exact hQ _ hF.2.2
    refine w_aln rfl ?_
    refine w_gi gm rfl (by decide) rfl hS.2.1.1 ?_
    refine w_ifeq (fun c => ?_) (fun c => ?_)
    · exact r_plE (v1 := none) gm gha gsx gns (by rw [hS.2.2.2.2.2.1]; exact r6) (by rw [hS.2.2.2.2.2.1]; exact r7) (by rw [hS.2.2.2.2.2.1]; exact r9) hS.1.2.2.2.2.2.2.2 hS.2.2.1 hb.2.1 hS.2.2.2.2.1 hS.2.2.2.2.2.2.2.2.2.2.1 (fun M' q1 q2 => h0 (by omega) M' q1 ⟨q2.1, fun a a1 a2 => (q2.2.1 a a1 a2).trans (funext fun j => hS.2.2.2.2.2.2.2.2.2.2.2 a j a1 (fun e => a2 (Option.some.inj (e.1.symm.trans r9)))), by rw [q2.2.2.1, hS.2.2.2.2.2.2.2.2.2.1 26 (by decide)], by rw [q2.2.2.2, hS.2.2.2.2.2.2.2.2.2.1 26 (by decide)]⟩) _ _
    · have e0 : (T q).1 ≠ 0 := by omega
      refine w_aln rfl ?_
      by_cases e5 : (T q).1 = 5
      · refine w_cv (st := []) rfl gm rfl (Nat.le_of_ble_eq_true rfl) (fun kk h => h) (r_rR_n (d := d) hB hS g2 hb (fun i hi g => by omega) (fun M1 F1 => ?_))
        refine w_ifeq (fun _ => ?_) (fun c => absurd rfl c)
        exact bad M1 _ _ _ _ F1 (h5 e5)
      · have hlt := hw.2.2.2.1 e0 e5
        have hle := hw.2.2.2.2.2
        refine w_cv (st := []) rfl gm rfl (Nat.le_of_ble_eq_true rfl) (fun kk h => h) (r_X12_row2 (d := d) hB hS g2 hb ((hr e0 e5).mono (fun f a hf M1 F1 => ?_) (fun PL1 WA1 OA1 TO1 BI1 nm1 q1 hk1 g4 g5 hb1 ga za M1 s1 => ?_)))
        · refine w_ifeq (fun _ => ?_) (fun c => absurd rfl c)
          exact bad M1 _ _ _ _ F1 hf
        · refine w_ifeq (fun c => absurd c (by decide)) (fun _ => ?_)
          refine w_aln rfl ?_
          refine w_bp ?_
          have g6 := rv_y_le hB g5
          have g7 := rv_y_ge hB g5
          refine w_cv (st := []) rfl gm rfl (Nat.le_of_ble_eq_true rfl) (fun kk h => h) (r_X12_sign2 (d := d + 3) hB s1 g6 (hk1.mono (fun f a hf M2 F2 => ?_) (fun e3 hk2 M2 s2 => ?_)))
          · refine w_ifne (fun c => absurd rfl c) (fun _ => ?_)
            exact bad M2 _ _ _ _ F2 hf
          · have g8 := (rv_y_w hB g6).2.2.2.1 (by omega) (by omega)
            have g9 := rv_y_le hB g6
            refine w_ifne (fun _ => ?_) (fun c => absurd c (by decide))
            refine w_aln rfl ?_
            refine w_dupr ?_
            refine w_gi gm rfl (by decide) rfl s2.1.2.2.2.2.2.2.2 ?_
            refine w_ic ?_
            refine w_add ⟨by omega, by omega⟩ ?_
            refine w_pi gm rfl (by decide) rfl (fun q => by cases q) ?_
            have s3 := s2.srow (v := (r : Int) + 1) hB.1
            refine w_goto ?_
            exact ih (rv_x T (rv_x T q1)) (r + 1) PL1 WA1 OA1 TO1 BI1 nm1 _ _ _ _ _ (by unfold rv_x at *; omega) g9 (by unfold rv_x at *; omega) hb1 s3 hk2
theorem r_X12_plain2 {G : mj_G} {M : mj_M} {B : Nat → Int} {n m bt ha hd ns rs sx : Nat} {T : Nat → Nat × Nat × Int × List Int × Nat} {Q : mj_P} {d : Nat} {PL WA OA : Nat → Int} {TO BI : Nat → Nat → Int} {NA : Nat → Int64} (hB : rv_BT G M B n 900 m bt ha hd ns rs sx T) (hn : M.1 m 2 = (n : Int)) (h0 : rv_0 PL WA OA TO BI NA) (h : sp_rows T (fun f a => ∀ M', rv_sw M sx m ha M' → Q (some (.inl (rv_vf a))) G M') (fun PL WA OA TO BI nm r => ∀ M', rv_QO sx ns PL WA TO BI nm M' → M'.1 m 28 = 0 ∧ rv_QX M m ns M' → Q (some (.inl (r : Int))) G M') (n + 1) PL WA OA TO BI (fun _ => []) 0 0) : mj_R mj_tab (d + 7) 226 [.inr (.inr (some m))] G M Q := by
  obtain ⟨⟨gm, gbt, gha, ghd, gns, grs, r1, r7, r23, r9, r10, rb, rr, n1, n2, gsx, r6⟩, hT⟩ := id hB
  refine ⟨Nat.le_of_ble_eq_true rfl, ?_⟩
  show wz (d + 6) mt_X12_plain.2.2.2.2.1 Q mt_X12_plain.2.2.2.2.1 [some (.inr (.inr (some m))), none] [] G M _ _
  refine w_aln rfl ?_
  refine w_ic ?_
  refine w_pi gm rfl (by decide) rfl (fun q => by cases q) ?_
  refine w_aln rfl ?_
  refine w_sp ?_
  refine w_cv (st := []) rfl gm rfl (Nat.le_of_ble_eq_true rfl) (fun kk h => h) ⟨Nat.le_of_ble_eq_true rfl, ?_⟩
  show wz (d + 5) mt_X12_taken.2.2.2.2.1 _ mt_X12_taken.2.2.2.2.1 [some (.inr (.inr (some m))), some (.inl 900)] [] _ _ _ _
  refine w_aln rfl ?_
  refine w_aln rfl ?_
  refine w_gi gm rfl (by decide) rfl (v := (n : Int)) ((hn_n (Or.inr (by decide))).trans hn) ?_
  refine w_pi gm rfl (by decide) rfl (fun q => by cases q) ?_
  refine w_aln rfl ?_
  refine w_ic ?_
  refine w_pi gm rfl (by decide) rfl (fun q => by cases q) ?_
  refine w_aln rfl ?_
  refine w_ic ?_
  refine w_pi gm rfl (by decide) rfl (fun q => by cases q) ?_
  refine w_aln rfl ?_
  refine w_iln rfl ?_
  refine w_pi gm rfl (by decide) rfl (fun q => by cases q) ?_
  refine w_ret ?_
  refine w_aln rfl ?_
  refine w_ic ?_
  refine w_pi gm rfl (by decide) rfl (fun q => by cases q) ?_
  refine w_aln rfl ?_
  refine w_ic ?_
  refine w_pi gm rfl (by decide) rfl (fun q => by cases q) ?_
  refine w_aln rfl ?_
  refine w_ic ?_
  refine w_pi gm rfl (by decide) rfl (fun q => by cases q) ?_
  refine w_aln rfl ?_
  refine w_ic ?_
  refine w_pi gm rfl (by decide) rfl (fun q => by cases q) ?_
  refine w_aln rfl ?_
  refine w_ic ?_
  refine w_pi gm rfl (by decide) rfl (fun q => by cases q) ?_
  have eo : ∀ a, a ≠ m → (mj_p0 (mj_p0 (mj_p0 (mj_p0 (mj_p0 (mj_p0 (mj_p0 (mj_p0 (mj_p0 (mj_p0 M m 0 0) m 3 (n : Int)) m 2 0) m 4 0) m 5 900) m 15 0) m 19 0) m 20 0) m 21 0) m 22 0).1 a = M.1 a := fun a ha => (wz_c ha).trans ((wz_c ha).trans ((wz_c ha).trans ((wz_c ha).trans ((wz_c ha).trans ((wz_c ha).trans ((wz_c ha).trans ((wz_c ha).trans ((wz_c ha).trans ((wz_c ha))))))))))
  refine w_ic ?_
  refine w_isn ?_
  refine r_zhd (M0 := (mj_p0 (mj_p0 (mj_p0 (mj_p0 (mj_p0 (mj_p0 (mj_p0 (mj_p0 (mj_p0 (mj_p0 M m 0 0) m 3 (n : Int)) m 2 0) m 4 0) m 5 900) m 15 0) m 19 0) m 20 0) m 21 0) m 22 0)) gm ghd r23 4 0 _ _ _ (by omega) rfl (fun _ _ => rfl) (fun j hj => absurd hj (Nat.not_lt_zero j)) (fun M1 h2 h1 z1 => ?_)
  refine w_ic ?_
  refine w_isn ?_
  refine r_zha (M0 := M1) gm gha (by rw [h2]; exact r7) 221 0 _ _ _ (by omega) rfl (fun _ _ => rfl) (fun j hj => absurd hj (Nat.not_lt_zero j)) (fun M2 k2 k1 z2 => ?_)
  refine w_aln rfl ?_
  refine w_gr gm rfl (by decide) rfl (by rw [k2, h2]; exact r7) ?_
  refine w_ic ?_
  refine w_ic ?_
  refine w_iast gha rfl (by decide) (by omega) (by show (3 : Int) < ((221 : Nat) : Int); omega) ?_
  refine w_aln rfl ?_
  have mm : ∀ j, (mj_p0 M2 ha ((3 : Int)).toNat 3).1 m j = (mj_p0 (mj_p0 (mj_p0 (mj_p0 (mj_p0 (mj_p0 (mj_p0 (mj_p0 (mj_p0 (mj_p0 M m 0 0) m 3 (n : Int)) m 2 0) m 4 0) m 5 900) m 15 0) m 19 0) m 20 0) m 21 0) m 22 0).1 m j := fun j => (hn_n (Or.inl (hn_ne gm gha (by decide)))).trans ((congrFun (k1 m (hn_ne gm gha (by decide))) j).trans (congrFun (h1 m (hn_ne gm ghd (by decide))) j))
  have eh : ∀ j, j < 221 → j ≠ 3 → (mj_p0 M2 ha ((3 : Int)).toNat 3).1 ha j = 0 := fun j hj h3 => (hn_n (Or.inr h3)).trans (z2 j hj)
  have ed : ∀ j, j < 4 → (mj_p0 M2 ha ((3 : Int)).toNat 3).1 hd j = 0 := fun j hj => (hn_n (Or.inl (hn_ne ghd gha (by decide)))).trans ((congrFun (k1 hd (hn_ne ghd gha (by decide))) j).trans (z1 j hj))
  have ebt : (mj_p0 M2 ha ((3 : Int)).toNat 3).1 bt = M.1 bt := (wz_c (hn_ne gbt gha (by decide))).trans ((k1 bt (hn_ne gbt gha (by decide))).trans ((h1 bt (hn_ne gbt ghd (by decide))).trans (eo bt (hn_ne gbt gm (by decide)))))
  have e22 : (mj_p0 M2 ha ((3 : Int)).toNat 3).2 = M.2 := k2.trans h2
  obtain ⟨w1, w2, w4, w5, w6, w7, w8, w11, w12, w13, w14⟩ := id h0
  have S0 : rv_R0 M n 900 m bt ha hd ns rs sx 0 PL WA OA TO BI (fun _ => []) (PL 4) ((mj_p0 M2 ha ((3 : Int)).toNat 3).1 m 18) ((mj_p0 M2 ha ((3 : Int)).toNat 3).1 m 24) ((0 : Nat) : Int) (mj_p0 M2 ha ((3 : Int)).toNat 3) := by
    refine ⟨⟨(mm 3).trans ((hn_n (Or.inr (by decide))).trans ((hn_n (Or.inr (by decide))).trans ((hn_n (Or.inr (by decide))).trans ((hn_n (Or.inr (by decide))).trans ((hn_n (Or.inr (by decide))).trans ((hn_n (Or.inr (by decide))).trans ((hn_n (Or.inr (by decide))).trans ((hn_n (Or.inr (by decide))).trans (hn_s))))))))), (mm 5).trans ((hn_n (Or.inr (by decide))).trans ((hn_n (Or.inr (by decide))).trans ((hn_n (Or.inr (by decide))).trans ((hn_n (Or.inr (by decide))).trans ((hn_n (Or.inr (by decide))).trans (hn_s)))))), ((mm 21).trans ((hn_n (Or.inr (by decide))).trans (hn_s))).trans w5.symm, ((mm 22).trans (hn_s)).trans w11.symm, fun k hk => ?_, rfl, rfl, (mm 19).trans ((hn_n (Or.inr (by decide))).trans ((hn_n (Or.inr (by decide))).trans ((hn_n (Or.inr (by decide))).trans (hn_s))))⟩, (mm 4).trans ((hn_n (Or.inr (by decide))).trans ((hn_n (Or.inr (by decide))).trans ((hn_n (Or.inr (by decide))).trans ((hn_n (Or.inr (by decide))).trans ((hn_n (Or.inr (by decide))).trans ((hn_n (Or.inr (by decide))).trans (hn_s))))))), ⟨(eh 0 (by decide) (by decide)).trans w4.symm, (eh 1 (by decide) (by decide)).trans w6.symm, (eh 2 (by decide) (by decide)).trans w7.symm, hn_s.trans w8.symm, fun t w ht hw => (eh _ (by omega) (by omega)).trans ((w1 t ht).2.2.1 w hw).symm, fun w hw => (eh _ (by omega) (by omega)).trans (w2 w hw).symm, fun t w ht hw => ⟨(eh _ (by omega) (by omega)).trans ((w1 t ht).2.2.2 w hw).symm, by rw [(w1 t ht).2.2.2 w hw]; decide⟩⟩, fun s k hs hk => by rw [ed s hs, (w1 k hk).2.1]; exact rv_bt_00 k (s + 4) (by omega) (by omega), fun k hk => by rw [w4] at hk; omega, congrArg Prod.snd e22, congrFun (congrArg Prod.fst e22) rs, ebt, ⟨(wz_c (hn_ne gsx gha (by decide))).trans ((k1 sx (hn_ne gsx gha (by decide))).trans ((h1 sx (hn_ne gsx ghd (by decide))).trans (eo sx (hn_ne gsx gm (by decide))))), fun j hj => (mm j).trans ((hn_n (Or.inr (by omega))).trans ((hn_n (Or.inr (by omega))).trans ((hn_n (Or.inr (by omega))).trans ((hn_n (Or.inr (by omega))).trans ((hn_n (Or.inr (by omega))).trans ((hn_n (Or.inr (by omega))).trans ((hn_n (Or.inr (by omega))).trans ((hn_n (Or.inr (by omega))).trans ((hn_n (Or.inr (by omega))).trans (hn_n (Or.inr (by omega)))))))))))), fun j h1 h2 => eh j h2 (by omega), fun a j _ _ => congrFun (congrFun (congrArg Prod.fst e22) a) j⟩⟩
    rw [mm 20, show (mj_p0 (mj_p0 (mj_p0 (mj_p0 (mj_p0 (mj_p0 (mj_p0 (mj_p0 (mj_p0 (mj_p0 M m 0 0) m 3 (n : Int)) m 2 0) m 4 0) m 5 900) m 15 0) m 19 0) m 20 0) m 21 0) m 22 0).1 m 20 = 0 from (hn_n (Or.inr (by decide))).trans ((hn_n (Or.inr (by decide))).trans (hn_s))]
    have : k = 0 ∨ k = 1 ∨ k = 2 := by omega
    rcases this with rfl | rfl | rfl
    · rw [w12]; decide
    · rw [w13]; decide
    · rw [w14]; decide
  refine w_cv (st := []) rfl gm rfl (Nat.le_of_ble_eq_true rfl) (fun kk h => h) (r_nxt0 (d := d + 4) hB.1 S0 (Nat.zero_le n) (fun M3 s3 => ?_))
  rw [← hB.2] at s3
  exact r_rowsR hB (n + 1) 0 0 PL WA OA TO BI _ _ _ M3 _ _ (by omega) (Nat.zero_le n) (Nat.le_refl 0) ⟨by rw [w4]; decide, by rw [w4]; decide, by rw [w5]; decide, by rw [w5]; decide⟩ s3 h
