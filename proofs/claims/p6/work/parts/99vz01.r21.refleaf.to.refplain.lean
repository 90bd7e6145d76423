section
/-! ===== the reference's leaf readers (laid by a program) ===== -/
def rv_BT (G : mj_G) (M0 : mj_M) (B : Nat → Int) (n lim m bt ha hd ns rs sx : Nat) (T : Nat → Nat × Nat × Int × List Int × Nat) : Prop := rv_B G M0 B n lim m bt ha hd ns rs sx ∧ T = rv_T B n lim
theorem w_rem {d : Nat} {full : List mj_E} {Q : mj_P} {rest : List mj_E} {L : mj_L} {st : List mj_V} {G : mj_G} {M : mj_M} {cb sb pc : Nat} {aux : List Nat} {im : Int} {x y : Int} (hy : y ≠ 0) (kk : ∀ z, mj_in z → z = (Int32.ofInt x - Int32.ofInt x / Int32.ofInt y * Int32.ofInt y).toInt → wz d full Q rest L (.inl z :: st) G M cb sb) : wz d full Q ((.irem, pc, aux, im) :: rest) L (.inl y :: .inl x :: st) G M cb sb := wz_st ⟨hy, kk⟩
theorem sp_nam.bad {T : Nat → Nat × Nat × Int × List Int × Nat} {p : Nat} {Kf : Int → Nat → Prop} {Ko : Prop} (h : sp_nam T p Kf Ko) (c : ¬ ((T p).1 = 1 ∧ rv_nam (T p).2.2.2.1)) : Kf 1 (T p).2.1 := by
  by_cases e : (T p).1 = 1
  · exact (h.1 e).2 (fun g => c ⟨e, g⟩)
  · exact h.2 e
theorem rv_rs_8 : ∀ j, j < 24 → ∀ W : Int64, W = rv_8 (rv_rs.getD j []) → rv_8 (rv_rs.getD j []) = W := fun _ _ _ h => h.symm
theorem rv_y_w {G : mj_G} {M0 : mj_M} {B : Nat → Int} {n lim m bt ha hd ns rs sx : Nat} {T : Nat → Nat × Nat × Int × List Int × Nat} {q : Nat} (hB : rv_BT G M0 B n lim m bt ha hd ns rs sx T) (h : q ≤ n) : rv_tw n q (T q) := by rw [hB.2]; exact rv_T_w h
theorem rv_y_le {G : mj_G} {M0 : mj_M} {B : Nat → Int} {n lim m bt ha hd ns rs sx : Nat} {T : Nat → Nat × Nat × Int × List Int × Nat} {q : Nat} (hB : rv_BT G M0 B n lim m bt ha hd ns rs sx T) (h : q ≤ n) : rv_x T q ≤ n := (rv_y_w hB h).2.2.2.2.2
theorem rv_y_ge {G : mj_G} {M0 : mj_M} {B : Nat → Int} {n lim m bt ha hd ns rs sx : Nat} {T : Nat → Nat × Nat × Int × List Int × Nat} {q : Nat} (hB : rv_BT G M0 B n lim m bt ha hd ns rs sx T) (h : q ≤ n) : q ≤ rv_x T q := (rv_y_w hB h).2.1
theorem rv_y_wo {G : mj_G} {M0 : mj_M} {B : Nat → Int} {n lim m bt ha hd ns rs sx : Nat} {T : Nat → Nat × Nat × Int × List Int × Nat} {q : Nat} (hB : rv_BT G M0 B n lim m bt ha hd ns rs sx T) (h : q ≤ n) (h1 : (T q).1 = 1) : rv_wo (T q).2.2.2.1 := (rv_y_w hB h).2.2.2.2.1 h1
theorem r_nxtT {G : mj_G} {M0 M : mj_M} {B : Nat → Int} {n lim m bt ha hd ns rs sx : Nat} {T : Nat → Nat × Nat × Int × List Int × Nat} {PL WA OA : Nat → Int} {TO BI : Nat → Nat → Int} {nm : Nat → List Int} {b g z r : Int} {Q : mj_P} {d q : Nat} (hB : rv_BT G M0 B n lim m bt ha hd ns rs sx T) (h : rv_R M0 n lim m bt ha hd ns rs sx (T q) PL WA OA TO BI nm b g z r M) (hk : (T q).1 ≠ 0) (hk5 : (T q).1 ≠ 5) (hq : q ≤ n) (hQ : ∀ M', rv_R M0 n lim m bt ha hd ns rs sx (T (rv_x T q)) PL WA OA TO BI nm b g z r M' → Q none G M') : mj_R mj_tab (d + 2) 216 [.inr (.inr (some m))] G M Q := r_nxt hB.1 h hk hk5 rfl (rv_y_le hB hq) (fun M' h' => hQ M' (by rw [hB.2]; rw [hB.2] at h'; exact h'))
theorem r_X12_bad2 {G : mj_G} {M0 M : mj_M} {B : Nat → Int} {n lim m bt ha hd ns rs sx : Nat} {T : Nat → Nat × Nat × Int × List Int × Nat} {PL WA OA : Nat → Int} {TO BI : Nat → Nat → Int} {nm : Nat → List Int} {b g z r : Int} {Q : mj_P} {d : Nat} {f : Int} {t : Nat × Nat × Int × List Int × Nat} (hB : rv_BT G M0 B n lim m bt ha hd ns rs sx T) (hS : rv_R M0 n lim m bt ha hd ns rs sx t PL WA OA TO BI nm b g z r M) (hQ : ∀ M', rv_FR M0 m sx ha f t.2.1 M' → Q (some (.inl 0)) G M') : mj_R mj_tab (d + 1) 161 [.inr (.inr (some m)), .inl f] G M Q := by
  have gm := hB.1.1
  refine ⟨Nat.le_of_ble_eq_true rfl, ?_⟩
  show wz d mt_X12_bad.2.2.2.2.1 Q mt_X12_bad.2.2.2.2.1 [some (.inr (.inr (some m))), some (.inl f)] [] G M _ _
  refine w_aln rfl ?_
  refine w_iln rfl ?_
  refine w_pi gm rfl (by decide) rfl (fun q => by cases q) ?_
  refine w_aln rfl ?_
  refine w_aln rfl ?_
  refine w_gi gm rfl (by decide) rfl rfl ?_
  refine w_pi gm rfl (by decide) rfl (fun q => by cases q) ?_
  refine w_ic ?_
  exact w_iret (fun _ => Or.inl rfl) (hQ _ ⟨(hn_n (Or.inr (by decide))).trans hn_s, hn_s.trans ((hn_n (Or.inr (by decide))).trans hS.2.1.2.1), (hS.2.2.2.2.2.2.2.2.m (hn_ne hB.1.2.2.2.2.2.2.2.2.2.2.2.2.2.2.2.1 gm (by decide)) (hn_ne hB.1.2.2.1 gm (by decide)) (by decide)).m (hn_ne hB.1.2.2.2.2.2.2.2.2.2.2.2.2.2.2.2.1 gm (by decide)) (hn_ne hB.1.2.2.1 gm (by decide)) (by decide)⟩)
theorem r_isWord1 {G : mj_G} {M0 M : mj_M} {B : Nat → Int} {n lim m bt ha hd ns rs sx : Nat} {T : Nat → Nat × Nat × Int × List Int × Nat} {PL WA OA : Nat → Int} {TO BI : Nat → Nat → Int} {nm : Nat → List Int} {b g z r : Int} {Q : mj_P} {d q : Nat} {i : Nat} {W : Int64} (hB : rv_BT G M0 B n lim m bt ha hd ns rs sx T) (hS : rv_R M0 n lim m bt ha hd ns rs sx (T q) PL WA OA TO BI nm b g z r M) (hqn : q ≤ n) (hi : i < 24) (hW : rv_8 (rv_rs.getD i []) = W) (hc : ((T q).1 = 1 ∧ rv_rs.getD i [] = (T q).2.2.2.1)) (hQ : Q (some (.inl 1)) G M) : mj_R mj_tab (d + 1) 206 [.inr (.inr (some m)), .inr (.inl W)] G M Q := by
  obtain ⟨⟨gm, gbt, gha, ghd, gns, grs, r1, r7, r23, r9, r10, rb, rr, n1, n2, gsx, r6⟩, hT⟩ := id hB
  have hk := rv_tkc_f (rv_y_w hB hqn).1
  refine ⟨Nat.le_of_ble_eq_true rfl, ?_⟩
  show wz d mt_X12_isWord.2.2.2.2.1 Q mt_X12_isWord.2.2.2.2.1 [some (.inr (.inr (some m))), some (.inr (.inl W)), none] [] G M _ _
  refine w_aln rfl ?_
  refine w_gi gm rfl (by decide) rfl hS.2.1.1 ?_
  refine w_ic ?_
  have h1 := hc.1
  refine w_cmne (fun c => by exfalso; omega) (fun c => ?_)
  refine w_aln rfl ?_
  refine w_gl gm rfl (by decide) rfl (hS.2.1.2.2.1 h1) ?_
  refine w_lln rfl ?_
  refine w_lcmp ?_
  intro z hz ez
  have qz := rv_cmp ez
  refine w_ifne (fun c2 => absurd (by rw [← hW, hc.2]) (qz.2 c2)) (fun c2 => ?_)
  refine w_ic ?_
  refine w_goto ?_
  exact w_iret (fun _ => Or.inr rfl) hQ
theorem r_isWord0 {G : mj_G} {M0 M : mj_M} {B : Nat → Int} {n lim m bt ha hd ns rs sx : Nat} {T : Nat → Nat × Nat × Int × List Int × Nat} {PL WA OA : Nat → Int} {TO BI : Nat → Nat → Int} {nm : Nat → List Int} {b g z r : Int} {Q : mj_P} {d q : Nat} {i : Nat} {W : Int64} (hB : rv_BT G M0 B n lim m bt ha hd ns rs sx T) (hS : rv_R M0 n lim m bt ha hd ns rs sx (T q) PL WA OA TO BI nm b g z r M) (hqn : q ≤ n) (hi : i < 24) (hW : rv_8 (rv_rs.getD i []) = W) (hc : ¬ ((T q).1 = 1 ∧ rv_rs.getD i [] = (T q).2.2.2.1)) (hQ : Q (some (.inl 0)) G M) : mj_R mj_tab (d + 1) 206 [.inr (.inr (some m)), .inr (.inl W)] G M Q := by
  obtain ⟨⟨gm, gbt, gha, ghd, gns, grs, r1, r7, r23, r9, r10, rb, rr, n1, n2, gsx, r6⟩, hT⟩ := id hB
  have hk := rv_tkc_f (rv_y_w hB hqn).1
  refine ⟨Nat.le_of_ble_eq_true rfl, ?_⟩
  show wz d mt_X12_isWord.2.2.2.2.1 Q mt_X12_isWord.2.2.2.2.1 [some (.inr (.inr (some m))), some (.inr (.inl W)), none] [] G M _ _
  refine w_aln rfl ?_
  refine w_gi gm rfl (by decide) rfl hS.2.1.1 ?_
  refine w_ic ?_
  refine w_cmne (fun c => ?_) (fun c => ?_)
  · refine w_ic ?_
    exact w_iret (fun _ => Or.inl rfl) hQ
  · have h1 : (T q).1 = 1 := by omega
    refine w_aln rfl ?_
    refine w_gl gm rfl (by decide) rfl (hS.2.1.2.2.1 h1) ?_
    refine w_lln rfl ?_
    refine w_lcmp ?_
    intro z hz ez
    have qz := rv_cmp ez
    refine w_ifne (fun c2 => ?_) (fun c2 => absurd ⟨h1, rv_8i (rv_rs_o i hi) (rv_y_wo hB hqn h1) (hW.trans (qz.1 c2).symm)⟩ hc)
    refine w_ic ?_
    exact w_iret (fun _ => Or.inl rfl) hQ
theorem r_isName1 {G : mj_G} {M0 M : mj_M} {B : Nat → Int} {n lim m bt ha hd ns rs sx : Nat} {T : Nat → Nat × Nat × Int × List Int × Nat} {PL WA OA : Nat → Int} {TO BI : Nat → Nat → Int} {nm : Nat → List Int} {b g z r : Int} {Q : mj_P} {d q : Nat} (hB : rv_BT G M0 B n lim m bt ha hd ns rs sx T) (hS : rv_R M0 n lim m bt ha hd ns rs sx (T q) PL WA OA TO BI nm b g z r M) (hqn : q ≤ n) (h1 : (T q).1 = 1 → rv_nam (T q).2.2.2.1 → Q (some (.inl 1)) G M) (h0 : ¬ ((T q).1 = 1 ∧ rv_nam (T q).2.2.2.1) → Q (some (.inl 0)) G M) : ∀ (f k : Nat) (y : Int) (cb sb : Nat), k + f = 24 → ((y = 1 ∧ (T q).1 = 1 ∧ ∀ j, j < k → rv_rs.getD j [] ≠ (T q).2.2.2.1) ∨ (y = 0 ∧ ¬ ((T q).1 = 1 ∧ ∀ j, j < k → rv_rs.getD j [] ≠ (T q).2.2.2.1))) → wz d mt_X12_isName.2.2.2.2.1 Q (mt_X12_isName.2.2.2.2.1.drop 10) [some (.inr (.inr (some m))), some (.inl y), some (.inl (k : Int))] [] G M cb sb := by
  obtain ⟨⟨gm, gbt, gha, ghd, gns, grs, r1, r7, r23, r9, r10, rb, rr, n1, n2, gsx, r6⟩, hT⟩ := id hB
  intro f
  induction f with
  | zero =>
    intro k y cb sb hk hy
    have e : k = 24 := by omega
    subst e
    refine w_iln rfl ?_
    refine w_bp ?_
    refine w_cmge (fun c => ?_) (fun c => by exfalso; omega)
    refine w_iln rfl ?_
    rcases hy with ⟨e, a1, a2⟩ | ⟨e, a1⟩
    · rw [e]; exact w_iret (fun _ => Or.inr rfl) (h1 a1 a2)
    · rw [e]; exact w_iret (fun _ => Or.inl rfl) (h0 a1)
  | succ f ih =>
    intro k y cb sb hk hy
    have hk24 : k < 24 := by omega
    refine w_iln rfl ?_
    refine w_bp ?_
    refine w_cmge (fun c => by exfalso; omega) (fun c => ?_)
    refine w_iln rfl ?_
    refine w_ifeq (fun c2 => ?_) (fun c2 => ?_)
    · refine w_ic ?_
      refine w_isn ?_
      refine w_ii rfl ⟨by omega, by omega⟩ ?_
      refine w_goto ?_
      refine ih (k + 1) 0 _ _ (by omega) (Or.inr ⟨rfl, fun g => ?_⟩)
      rcases hy with ⟨e, a1, a2⟩ | ⟨e, a1⟩
      · omega
      · exact a1 ⟨g.1, fun j hj => g.2 j (by omega)⟩
    · rcases hy with ⟨e, a1, a2⟩ | ⟨e, a1⟩
      · refine w_aln rfl ?_
        refine w_gl gm rfl (by decide) rfl (hS.2.1.2.2.1 a1) ?_
        refine w_aln rfl ?_
        refine w_gr gm rfl (by decide) rfl (by rw [hS.2.2.2.2.2.1]; exact r10) ?_
        refine w_iln rfl ?_
        refine w_lald (v := rv_8 (rv_rs.getD k [])) grs rfl (by omega) (by show (k : Int) < ((24 : Nat) : Int); omega) (by rw [hS.2.2.2.2.2.2.1]; exact rr k hk24) ?_
        refine w_lcmp ?_
        intro z hz ez
        have qz := rv_cmp ez
        refine w_ifeq (fun c3 => ?_) (fun c3 => ?_)
        · refine w_ic ?_
          refine w_isn ?_
          refine w_ii rfl ⟨by omega, by omega⟩ ?_
          refine w_goto ?_
          exact ih (k + 1) 0 _ _ (by omega) (Or.inr ⟨rfl, fun g => g.2 k (by omega) (rv_8i (rv_rs_o k hk24) (rv_y_wo hB hqn a1) (qz.1 c3).symm)⟩)
        · refine w_ic ?_
          refine w_goto ?_
          refine w_isn ?_
          refine w_ii rfl ⟨by omega, by omega⟩ ?_
          refine w_goto ?_
          refine ih (k + 1) 1 _ _ (by omega) (Or.inl ⟨rfl, a1, fun j hj e => ?_⟩)
          rcases Nat.lt_or_ge j k with q1 | q1
          · exact a2 j q1 e
          · have ej : j = k := by omega
            rw [ej] at e
            exact qz.2 c3 (by rw [e])
      · omega
theorem r_X12_isName2 {G : mj_G} {M0 M : mj_M} {B : Nat → Int} {n lim m bt ha hd ns rs sx : Nat} {T : Nat → Nat × Nat × Int × List Int × Nat} {PL WA OA : Nat → Int} {TO BI : Nat → Nat → Int} {nm : Nat → List Int} {b g z r : Int} {Q : mj_P} {d q : Nat} (hB : rv_BT G M0 B n lim m bt ha hd ns rs sx T) (hS : rv_R M0 n lim m bt ha hd ns rs sx (T q) PL WA OA TO BI nm b g z r M) (hqn : q ≤ n) (h1 : (T q).1 = 1 → rv_nam (T q).2.2.2.1 → Q (some (.inl 1)) G M) (h0 : ¬ ((T q).1 = 1 ∧ rv_nam (T q).2.2.2.1) → Q (some (.inl 0)) G M) : mj_R mj_tab (d + 1) 201 [.inr (.inr (some m))] G M Q := by
  obtain ⟨⟨gm, gbt, gha, ghd, gns, grs, r1, r7, r23, r9, r10, rb, rr, n1, n2, gsx, r6⟩, hT⟩ := id hB
  have hk := rv_tkc_f (rv_y_w hB hqn).1
  refine ⟨Nat.le_of_ble_eq_true rfl, ?_⟩
  show wz d mt_X12_isName.2.2.2.2.1 Q mt_X12_isName.2.2.2.2.1 [some (.inr (.inr (some m))), none, none] [] G M _ _
  refine w_aln rfl ?_
  refine w_gi gm rfl (by decide) rfl hS.2.1.1 ?_
  refine w_ic ?_
  refine w_cmne (fun c => ?_) (fun c => ?_)
  · refine w_ic ?_
    refine w_isn ?_
    refine w_ic ?_
    refine w_isn ?_
    exact r_isName1 hB hS hqn h1 h0 24 0 0 _ _ (by omega) (Or.inr ⟨rfl, fun g => by omega⟩)
  · refine w_ic ?_
    refine w_goto ?_
    refine w_isn ?_
    refine w_ic ?_
    refine w_isn ?_
    exact r_isName1 hB hS hqn h1 h0 24 0 1 _ _ (by omega) (Or.inl ⟨rfl, by omega, fun j hj => absurd hj (Nat.not_lt_zero j)⟩)
theorem r_findR {G : mj_G} {M0 M : mj_M} {B : Nat → Int} {n lim m bt ha hd ns rs sx : Nat} {T : Nat → Nat × Nat × Int × List Int × Nat} {PL WA OA : Nat → Int} {TO BI : Nat → Nat → Int} {nm : Nat → List Int} {b g z r : Int} {Q : mj_P} {d q : Nat} (hB : rv_BT G M0 B n lim m bt ha hd ns rs sx T) (hS : rv_R M0 n lim m bt ha hd ns rs sx (T q) PL WA OA TO BI nm b g z r M) (hb : rv_pb PL) (hbb : PL 4 ≤ b) (hk1 : (T q).1 = 1) (hw : rv_wo (T q).2.2.2.1) (h : sp_find nm (PL 4) (T q).2.2.2.1 (fun r => Q (some (.inl r)) G M)) : ∀ f i : Nat, PL 4 ≤ ((i + f : Nat) : Int) → (i : Int) ≤ PL 4 → (∀ j, j < i → nm j ≠ (T q).2.2.2.1) → ∀ cb sb, wz d mt_X12_find.2.2.2.2.1 Q (mt_X12_find.2.2.2.2.1.drop 2) [some (.inr (.inr (some m))), some (.inl 8), some (.inl (PL 4)), some (.inl (i : Int))] [] G M cb sb := by
  obtain ⟨⟨gm, gbt, gha, ghd, gns, grs, r1, r7, r23, r9, r10, rb, rr, n1, n2, gsx, r6⟩, hT⟩ := id hB
  obtain ⟨b1, b2, b3, b4⟩ := hb
  have sh : ∀ (i : Nat), (i : Int) ≤ PL 4 → (∀ j, j < i → nm j ≠ (T q).2.2.2.1) → (∀ cb sb, (i : Int) < PL 4 → nm i ≠ (T q).2.2.2.1 → wz d mt_X12_find.2.2.2.2.1 Q (mt_X12_find.2.2.2.2.1.drop 2) [some (.inr (.inr (some m))), some (.inl 8), some (.inl (PL 4)), some (.inl ((i : Int) + 1))] [] G M cb sb) → ∀ cb sb, wz d mt_X12_find.2.2.2.2.1 Q (mt_X12_find.2.2.2.2.1.drop 2) [some (.inr (.inr (some m))), some (.inl 8), some (.inl (PL 4)), some (.inl (i : Int))] [] G M cb sb := by
    intro i g2 g3 go cb sb
    refine w_iln rfl ?_
    refine w_iln rfl ?_
    refine w_cmge (fun c => ?_) (fun c => ?_)
    · refine w_ic ?_
      exact w_iret (fun q => by cases q) (h.2 (fun j hj => g3 j (by omega)))
    · refine w_aln rfl ?_
      refine w_gr gm rfl (by decide) rfl (by rw [hS.2.2.2.2.2.1]; exact r9) ?_
      refine w_iln rfl ?_
      refine w_iln rfl ?_
      refine w_add ⟨by omega, by omega⟩ ?_
      refine w_lald (v := rv_8 (nm i)) gns rfl (by omega) (by show (8 : Int) + (i : Int) < ((16 : Nat) : Int); omega) (by rw [show ((8 : Int) + (i : Int)).toNat = 8 + i by omega]; exact (hS.2.2.2.2.1 i (by omega)).1) ?_
      refine w_aln rfl ?_
      refine w_gl gm rfl (by decide) rfl (hS.2.1.2.2.1 hk1) ?_
      refine w_lcmp ?_
      intro z hz ez
      have qz := rv_cmp ez
      refine w_ifne (fun c2 => ?_) (fun c2 => ?_)
      · refine w_ii rfl ⟨by omega, by omega⟩ ?_
        refine w_goto ?_
        exact go _ _ c (fun e => qz.2 c2 (by rw [e]))
      · refine w_iln rfl ?_
        exact w_iret (fun q => by cases q) (h.1 i c (rv_8i (hS.2.2.2.2.1 i (by omega)).2 hw (qz.1 c2)) g3)
  intro f
  induction f with
  | zero => intro i g1 g2 g3 cb sb; exact sh i g2 g3 (fun cb sb c _ => by exfalso; omega) cb sb
  | succ f ih =>
    intro i g1 g2 g3 cb sb
    exact sh i g2 g3 (fun cb sb c c2 => ih (i + 1) (by omega) (by omega) (fun j hj => by
      rcases Nat.lt_or_ge j i with q | q
      · exact g3 j q
      · rw [show j = i by omega]; exact c2) cb sb) cb sb
theorem r_X12_find2 {G : mj_G} {M0 M : mj_M} {B : Nat → Int} {n lim m bt ha hd ns rs sx : Nat} {T : Nat → Nat × Nat × Int × List Int × Nat} {PL WA OA : Nat → Int} {TO BI : Nat → Nat → Int} {nm : Nat → List Int} {b g z r : Int} {Q : mj_P} {d q : Nat} (hB : rv_BT G M0 B n lim m bt ha hd ns rs sx T) (hS : rv_R M0 n lim m bt ha hd ns rs sx (T q) PL WA OA TO BI nm b g z r M) (hb : rv_pb PL) (hbb : PL 4 ≤ b) (hk1 : (T q).1 = 1) (hw : rv_wo (T q).2.2.2.1) (h : sp_find nm (PL 4) (T q).2.2.2.1 (fun r => Q (some (.inl r)) G M)) : mj_R mj_tab (d + 1) 188 [.inr (.inr (some m)), .inl 8, .inl (PL 4)] G M Q := by
  refine ⟨Nat.le_of_ble_eq_true rfl, ?_⟩
  show wz d mt_X12_find.2.2.2.2.1 Q mt_X12_find.2.2.2.2.1 [some (.inr (.inr (some m))), some (.inl 8), some (.inl (PL 4)), none] [] G M _ _
  refine w_ic ?_
  refine w_isn ?_
  exact r_findR hB hS hb hbb hk1 hw h 8 0 (by have := hb.2.1; omega) hb.1 (fun j hj => absurd hj (Nat.not_lt_zero j)) _ _
theorem r_X12_takes2 {G : mj_G} {M0 M : mj_M} {B : Nat → Int} {n lim m bt ha hd ns rs sx : Nat} {T : Nat → Nat × Nat × Int × List Int × Nat} {PL WA OA : Nat → Int} {TO BI : Nat → Nat → Int} {nm : Nat → List Int} {b g z r : Int} {Q : mj_P} {d q : Nat} {lo hi : Int} (hB : rv_BT G M0 B n lim m bt ha hd ns rs sx T) (hS : rv_R M0 n lim m bt ha hd ns rs sx (T q) PL WA OA TO BI nm b g z r M) (hqn : q ≤ n) (h : sp_num T lo hi q (fun f a => ∀ M', rv_FR M0 m sx ha f a M' → Q (some (.inl 0)) G M') (∀ M', rv_R M0 n lim m bt ha hd ns rs sx (T (rv_x T q)) PL WA OA TO BI nm b (T q).2.2.1 z r M' → Q (some (.inl 1)) G M')) : mj_R mj_tab (d + 3) 246 [.inr (.inr (some m)), .inl lo, .inl hi] G M Q := by
  obtain ⟨⟨gm, gbt, gha, ghd, gns, grs, r1, r7, r23, r9, r10, rb, rr, n1, n2, gsx, r6⟩, hT⟩ := id hB
  refine ⟨Nat.le_of_ble_eq_true rfl, ?_⟩
  show wz (d + 2) mt_X12_takes.2.2.2.2.1 Q mt_X12_takes.2.2.2.2.1 [some (.inr (.inr (some m))), some (.inl lo), some (.inl hi)] [] G M _ _
  refine w_aln rfl ?_
  have t1 := rv_tkc_f (rv_y_w hB hqn).1
  refine w_gi gm rfl (by decide) rfl (hS.2.1.1) ?_
  refine w_ic ?_
  refine w_cmeq (fun c2 => ?_) (fun c2 => ?_)
  · skip
    refine w_aln rfl ?_
    have nn3 := hS.2.1.2.2.2.1 (by omega)
    refine w_gi gm rfl (by decide) rfl ((hS.2.1.2.2.2.1 (by omega)).1) ?_
    refine w_iln rfl ?_
    refine w_iln rfl ?_
    refine w_cs (st := []) rfl (Nat.le_of_ble_eq_true rfl) (fun kk h => h) ⟨Nat.le_of_ble_eq_true rfl, ?_⟩
    show wz (d + 1) mt_X12_isIn.2.2.2.2.1 _ mt_X12_isIn.2.2.2.2.1 [some (.inl ((T q).2.2.1)), some (.inl lo), some (.inl hi)] [] _ _ _ _
    refine w_iln rfl ?_
    refine w_iln rfl ?_
    refine w_cmlt (fun c4 => ?_) (fun c4 => ?_)
    · skip
      refine w_ic ?_
      refine w_iret (fun _ => Or.inl rfl) ?_
      refine w_ifne (fun c5 => ?_) (fun c5 => ?_)
      · exfalso; omega
      · skip
        refine w_aln rfl ?_
        refine w_ic ?_
        have h7 := h.1 (by omega)
        clear h
        have h8 := h7.2 (by omega)
        clear h7
        refine w_cv (st := []) rfl gm rfl (Nat.le_of_ble_eq_true rfl) (fun kk h => h) (r_X12_bad2 (d := d + 1) hB hS (fun MF6 F6 => ?_))
        exact w_iret (fun _ => Or.inl rfl) (h8 _ F6)
    · skip
      refine w_iln rfl ?_
      refine w_iln rfl ?_
      refine w_cmgt (fun c9 => ?_) (fun c9 => ?_)
      · skip
        refine w_ic ?_
        refine w_iret (fun _ => Or.inl rfl) ?_
        refine w_ifne (fun c10 => ?_) (fun c10 => ?_)
        · exfalso; omega
        · skip
          refine w_aln rfl ?_
          refine w_ic ?_
          have h12 := h.1 (by omega)
          clear h
          have h13 := h12.1 (by omega)
          clear h12
          have h14 := h13.2 (by omega)
          clear h13
          refine w_cv (st := []) rfl gm rfl (Nat.le_of_ble_eq_true rfl) (fun kk h => h) (r_X12_bad2 (d := d + 1) hB hS (fun MF11 F11 => ?_))
          exact w_iret (fun _ => Or.inl rfl) (h14 _ F11)
      · skip
        refine w_ic ?_
        refine w_goto ?_
        refine w_iret (fun _ => Or.inr rfl) ?_
        refine w_ifne (fun c15 => ?_) (fun c15 => ?_)
        · skip
          refine w_aln rfl ?_
          refine w_aln rfl ?_
          have nn16 := hS.2.1.2.2.2.1 (by omega)
          refine w_gi gm rfl (by decide) rfl ((hS.2.1.2.2.2.1 (by omega)).1) ?_
          refine w_pi gm rfl (by decide) rfl (fun q => by cases q) ?_
          have s17 := hS.sgot (v := (T q).2.2.1) hB.1
          refine w_aln rfl ?_
          refine w_cv (st := []) rfl gm rfl (Nat.le_of_ble_eq_true rfl) (fun kk h => h) (r_nxtT (d := d) hB s17 (by omega) (by omega) hqn (fun Ms18 s18 => ?_))
          refine w_ic ?_
          have h19 := h.1 (by omega)
          clear h
          have h20 := h19.1 (by omega)
          clear h19
          have h21 := h20.1 (by omega)
          clear h20
          exact w_iret (fun _ => Or.inr rfl) (h21 _ s18)
        · exfalso; omega
  · skip
    refine w_aln rfl ?_
    refine w_ic ?_
    have h23 := h.2 (by omega)
    clear h
    refine w_cv (st := []) rfl gm rfl (Nat.le_of_ble_eq_true rfl) (fun kk h => h) (r_X12_bad2 (d := d + 1) hB hS (fun MF22 F22 => ?_))
    exact w_iret (fun _ => Or.inl rfl) (h23 _ F22)
theorem r_X12_sign2 {G : mj_G} {M0 M : mj_M} {B : Nat → Int} {n lim m bt ha hd ns rs sx : Nat} {T : Nat → Nat × Nat × Int × List Int × Nat} {PL WA OA : Nat → Int} {TO BI : Nat → Nat → Int} {nm : Nat → List Int} {b g z r : Int} {Q : mj_P} {d q : Nat} (hB : rv_BT G M0 B n lim m bt ha hd ns rs sx T) (hS : rv_R M0 n lim m bt ha hd ns rs sx (T q) PL WA OA TO BI nm b g z r M) (hqn : q ≤ n) (h : sp_sgn T 59 q (fun f a => ∀ M', rv_FR M0 m sx ha f a M' → Q (some (.inl 0)) G M') (∀ M', rv_R M0 n lim m bt ha hd ns rs sx (T (rv_x T q)) PL WA OA TO BI nm b g z r M' → Q (some (.inl 1)) G M')) : mj_R mj_tab (d + 3) 242 [.inr (.inr (some m)), .inl 59] G M Q := by
  obtain ⟨⟨gm, gbt, gha, ghd, gns, grs, r1, r7, r23, r9, r10, rb, rr, n1, n2, gsx, r6⟩, hT⟩ := id hB
  have hk := rv_tkc_f (rv_y_w hB hqn).1
  refine ⟨Nat.le_of_ble_eq_true rfl, ?_⟩
  show wz (d + 2) mt_X12_sign.2.2.2.2.1 Q mt_X12_sign.2.2.2.2.1 [some (.inr (.inr (some m))), some (.inl 59)] [] G M _ _
  have bad : ∀ cb sb, ¬ ((T q).1 = 3 ∧ (T q).2.2.1 = 59) → wz (d + 2) mt_X12_sign.2.2.2.2.1 Q (mt_X12_sign.2.2.2.2.1.drop 4) [some (.inr (.inr (some m))), some (.inl 59)] [] G M cb sb := by
    intro cb sb hc
    refine w_aln rfl ?_
    refine w_ic ?_
    refine w_cv (st := []) rfl gm rfl (Nat.le_of_ble_eq_true rfl) (fun kk h => h) (r_X12_bad2 (d := d + 1) hB hS (fun M' F => ?_))
    refine w_iret (fun _ => Or.inl rfl) ?_
    by_cases c1 : (T q).1 = 3
    · exact (h.1 c1).2 (fun g => hc ⟨c1, g⟩) M' F
    · exact h.2 c1 M' F
  refine w_aln rfl ?_
  refine w_iln rfl ?_
  refine w_cv (st := []) rfl gm rfl (Nat.le_of_ble_eq_true rfl) (fun kk h => h) ⟨Nat.le_of_ble_eq_true rfl, ?_⟩
  show wz (d + 1) mt_X12_isSign.2.2.2.2.1 _ mt_X12_isSign.2.2.2.2.1 [some (.inr (.inr (some m))), some (.inl 59)] [] _ _ _ _
  refine w_aln rfl ?_
  refine w_gi gm rfl (by decide) rfl hS.2.1.1 ?_
  refine w_ic ?_
  refine w_cmne (fun c => ?_) (fun c => ?_)
  · refine w_ic ?_
    refine w_iret (fun _ => Or.inl rfl) ?_
    refine w_ifne (fun c => absurd rfl c) (fun _ => ?_)
    refine bad _ _ (fun g => ?_)
    rcases rv_tkc_s g.1 with e | e
    · exact c e.1
    · exact e.2 (Or.inl g.2)
  · have e3 : (T q).1 = 3 := by omega
    refine w_aln rfl ?_
    refine w_gi gm rfl (by decide) rfl (hS.2.1.2.2.2.2.1 e3) ?_
    refine w_iln rfl ?_
    refine w_cmne (fun c2 => ?_) (fun c2 => ?_)
    · refine w_ic ?_
      refine w_iret (fun _ => Or.inl rfl) ?_
      refine w_ifne (fun c => absurd rfl c) (fun _ => ?_)
      exact bad _ _ (fun g => c2 g.2)
    · refine w_ic ?_
      refine w_goto ?_
      refine w_iret (fun _ => Or.inr rfl) ?_
      refine w_ifne (fun _ => ?_) (fun c => absurd c (by decide))
      refine w_aln rfl ?_
      refine w_cv (st := []) rfl gm rfl (Nat.le_of_ble_eq_true rfl) (fun kk h => h) (r_nxtT (d := d) hB hS (by omega) (by omega) hqn (fun M' s => ?_))
      refine w_ic ?_
      exact w_iret (fun _ => Or.inr rfl) ((h.1 e3).1 c2 M' s)
end
section
/-! ===== the reference's row (laid by a program) ===== -/
theorem rv_R.bb {M0 M : mj_M} {n lim m bt ha hd ns rs sx : Nat} {t : Nat × Nat × Int × List Int × Nat} {PL WA OA : Nat → Int} {TO BI : Nat → Nat → Int} {nm : Nat → List Int} {b b' g z r : Int} (e : b = b') (h : rv_R M0 n lim m bt ha hd ns rs sx t PL WA OA TO BI nm b g z r M) : rv_R M0 n lim m bt ha hd ns rs sx t PL WA OA TO BI nm b' g z r M := by subst e; exact h
theorem rv_up2_c {f : Nat → Nat → Int} {t i j : Nat} {a b : Int} (h : i ≠ j) : rv_up2 (rv_up2 f t i a) t j b = rv_up2 (rv_up2 f t j b) t i a := by
  funext s k
  by_cases c : s = t
  · rw [c]
    by_cases c1 : k = j
    · rw [c1, rv_up2_s, rv_up2_n (fun e => h e.symm), rv_up2_s]
    · rw [rv_up2_n c1]
      by_cases c2 : k = i
      · rw [c2, rv_up2_s, rv_up2_s]
      · rw [rv_up2_n c2, rv_up2_n c2, rv_up2_n c1]
  · rw [rv_up2_o c, rv_up2_o c, rv_up2_o c, rv_up2_o c]
set_option maxHeartbeats 4000000 in
theorem r_rR_0 {G : mj_G} {M0 M : mj_M} {B : Nat → Int} {n lim m bt ha hd ns rs sx : Nat} {T : Nat → Nat × Nat × Int × List Int × Nat} {PL WA OA : Nat → Int} {TO BI : Nat → Nat → Int} {nm : Nat → List Int} {g z r : Int} {Q : mj_P} {d q : Nat} (hB : rv_BT G M0 B n lim m bt ha hd ns rs sx T) (hS : rv_R M0 n lim m bt ha hd ns rs sx (T q) PL WA OA TO BI nm (PL 4) g z r M) (hqn : q ≤ n) (hb : rv_pb PL) (hk1 : (T q).1 = 1) (hj : rv_rs.getD 0 [] = (T q).2.2.2.1) (h : sp_town T PL WA OA TO BI nm q (fun f a => ∀ M', rv_FR M0 m sx ha f a M' → Q (some (.inl 0)) G M') (fun PL WA OA TO BI nm q' => q ≤ q' → q' ≤ n → rv_pb PL → ∀ g z M', rv_R M0 n lim m bt ha hd ns rs sx (T (rv_x T q')) PL WA OA TO BI nm (PL 4) g z r M' → Q (some (.inl 1)) G M')) : mj_R mj_tab (d + 6) 237 [.inr (.inr (some m))] G M Q := by
  obtain ⟨⟨gm, gbt, gha, ghd, gns, grs, r1, r7, r23, r9, r10, rb, rr, n1, n2, gsx, r6⟩, hT⟩ := id hB
  obtain ⟨b1, b2, b3, b4⟩ := id hb
  unfold sp_town at h
  refine ⟨Nat.le_of_ble_eq_true rfl, ?_⟩
  show wz (d + 5) mt_X12_row.2.2.2.2.1 Q mt_X12_row.2.2.2.2.1 [some (.inr (.inr (some m))), none] [] G M _ _
  refine w_aln rfl ?_
  refine w_l2 ?_
  refine w_cv (st := []) rfl gm rfl (Nat.le_of_ble_eq_true rfl) (fun kk h => h) (r_isWord1 (d := d + 4) (i := 0) hB hS hqn (by decide) (by decide +kernel) ⟨hk1, hj⟩ ?_)
  refine w_ifeq (fun c1 => ?_) (fun c1 => ?_)
  · exfalso; omega
  · skip
    refine w_aln rfl ?_
    refine w_cv (st := []) rfl gm rfl (Nat.le_of_ble_eq_true rfl) (fun kk h => h) ⟨Nat.le_of_ble_eq_true rfl, ?_⟩
    show wz (d + 4) mt_X12_readTown.2.2.2.2.1 _ mt_X12_readTown.2.2.2.2.1 [some (.inr (.inr (some m))), none, none] [] _ _ _ _
    refine w_aln rfl ?_
    refine w_gr gm rfl (by decide) rfl ((congrFun (congrFun hS.2.2.2.2.2.1 m) 7).trans r7) ?_
    refine w_ic ?_
    refine w_iald (v := PL 4) gha rfl (by show (0 : Int) ≤ 0; omega) (by show 0 < ((221 : Nat) : Int); omega) (hS.2.2.1.1.trans (rfl)) ?_
    refine w_isn ?_
    show wz _ _ _ _ [some (.inr (.inr (some m))), some (.inl (PL 4)), none] _ _ _ _ _
    refine w_iln rfl ?_
    refine w_bp ?_
    refine w_cmne (fun c2 => ?_) (fun c2 => ?_)
    · skip
      refine w_aln rfl ?_
      refine w_cv (st := []) rfl gm rfl (Nat.le_of_ble_eq_true rfl) (fun kk h => h) (r_nxtT (d := d + 2) hB hS (by omega) (by omega) hqn (fun Ms3 s3 => ?_))
      refine w_aln rfl ?_
      have h4 := h.2 (by omega)
      clear h
      refine w_cv (st := []) rfl gm rfl (Nat.le_of_ble_eq_true rfl) (fun kk h => h) (r_X12_isName2 (d := d + 3) hB s3 (rv_y_le hB hqn) (fun bk5 ck5 => ?_) (fun ck5 => ?_))
      · skip
        have hvk5 := (h4.1 bk5).1 ck5
        refine w_ifne (fun c6 => ?_) (fun c6 => ?_)
        · skip
          refine w_aln rfl ?_
          refine w_bp ?_
          refine w_iln rfl ?_
          refine w_cv (st := []) rfl gm rfl (Nat.le_of_ble_eq_true rfl) (fun kk h => h) (r_X12_find2 (d := d + 3) hB s3 hb (by omega) (by omega) (rv_y_wo hB (rv_y_le hB hqn) (by omega)) (sp_find.mono hvk5 (fun rk7 lk7 ck7 mk7 hvk7 => ?_) (fun mk7 hvk7 => ?_)))
          · skip
            refine w_iflt (fun c8 => ?_) (fun c8 => ?_)
            · exfalso; omega
            · skip
              refine w_aln rfl ?_
              refine w_ic ?_
              have h10 := hvk7.2 (by omega)
              clear hvk7
              refine w_cv (st := []) rfl gm rfl (Nat.le_of_ble_eq_true rfl) (fun kk h => h) (r_X12_bad2 (d := d + 3) hB s3 (fun MF9 F9 => ?_))
              refine w_iret (fun _ => Or.inl rfl) ?_
              exact w_iret (fun _ => Or.inl rfl) (h10 _ F9)
          · skip
            refine w_iflt (fun c11 => ?_) (fun c11 => ?_)
            · skip
              refine w_aln rfl ?_
              refine w_gr gm rfl (by decide) rfl ((congrFun (congrFun s3.2.2.2.2.2.1 m) 9).trans r9) ?_
              refine w_bp ?_
              refine w_iln rfl ?_
              refine w_add ⟨by show (-2147483648 : Int) ≤ 8 + (PL 4); omega, by show 8 + (PL 4) < (2147483648 : Int); omega⟩ ?_
              refine w_aln rfl ?_
              refine w_gl gm rfl (by decide) rfl ((s3.2.1.2.2.1 (by omega))) ?_
              refine w_last gns rfl (by decide) (by show (0 : Int) ≤ 8 + (PL 4); omega) (by show 8 + (PL 4) < ((16 : Nat) : Int); omega) ?_
              have s12 := s3.snm (j := (8 + (PL 4)).toNat) (k := (PL 4).toNat) (w := (T (rv_x T q)).2.2.2.1) hB.1 (by omega) (by omega) (rv_y_wo hB (rv_y_le hB hqn) (by omega))
              refine w_aln rfl ?_
              refine w_cv (st := []) rfl gm rfl (Nat.le_of_ble_eq_true rfl) (fun kk h => h) (r_nxtT (d := d + 2) hB s12 (by omega) (by omega) (rv_y_le hB hqn) (fun Ms13 s13 => ?_))
              refine w_ic ?_
              refine w_isn ?_
              show wz _ _ _ _ [some (.inr (.inr (some m))), some (.inl (PL 4)), some (.inl 0)] _ _ _ _ _
              refine w_iln rfl ?_
              refine w_ic ?_
              refine w_cmge (fun c14 => ?_) (fun c14 => ?_)
              · exfalso; omega
              · skip
                refine w_aln rfl ?_
                refine w_ic ?_
                refine w_iln rfl ?_
                refine w_ic ?_
                refine w_rem (by decide) ?_
                intro z15 hz15 ez15
                obtain rfl : z15 = 0 := ez15.trans (by decide)
                refine w_ifne (fun c16 => ?_) (fun c16 => ?_)
                · exfalso; omega
                · skip
                  refine w_bp ?_
                  refine w_goto ?_
                  have h17 := hvk7.1 (by omega)
                  clear hvk7
                  refine w_cv (st := []) rfl gm rfl (Nat.le_of_ble_eq_true rfl) (fun kk h => h) (r_X12_takes2 (d := d + 1) hB s13 (rv_y_le hB (rv_y_le hB hqn)) (sp_num.mono h17 (fun fk18 ak18 hfk18 Mk18 Fk18 => ?_) (fun bk18 ck18 ek18 hvk18 Mk18 sk18 => ?_)))
                  · skip
                    refine w_ifne (fun c19 => ?_) (fun c19 => ?_)
                    · exfalso; omega
                    · skip
                      refine w_ic ?_
                      refine w_iret (fun _ => Or.inl rfl) ?_
                      exact w_iret (fun _ => Or.inl rfl) (hfk18 _ Fk18)
                  · skip
                    refine w_ifne (fun c20 => ?_) (fun c20 => ?_)
                    · skip
                      refine w_aln rfl ?_
                      refine w_gr gm rfl (by decide) rfl ((congrFun (congrFun sk18.2.2.2.2.2.1 m) 7).trans r7) ?_
                      refine w_ic ?_
                      refine w_bp ?_
                      refine w_iln rfl ?_
                      refine w_mul ⟨by show (-2147483648 : Int) ≤ 9 * (PL 4); omega, by show 9 * (PL 4) < (2147483648 : Int); omega⟩ ?_
                      refine w_add ⟨by show (-2147483648 : Int) ≤ 4 + (9 * (PL 4)); omega, by show 4 + (9 * (PL 4)) < (2147483648 : Int); omega⟩ ?_
                      refine w_iln rfl ?_
                      refine w_add ⟨by show (-2147483648 : Int) ≤ (4 + (9 * (PL 4))) + 0; omega, by show (4 + (9 * (PL 4))) + 0 < (2147483648 : Int); omega⟩ ?_
                      refine w_aln rfl ?_
                      refine w_gi gm rfl (by decide) rfl (sk18.1.2.2.2.2.2.1) ?_
                      refine w_iast gha rfl (by decide) (by show (0 : Int) ≤ (4 + (9 * (PL 4))) + 0; omega) (by show (4 + (9 * (PL 4))) + 0 < ((221 : Nat) : Int); omega) ?_
                      have s21 := sk18.htold (j := ((4 + (9 * (PL 4))) + 0).toNat) (k := (PL 4).toNat) (i := 0) (v := (T (rv_x T (rv_x T q))).2.2.1) hB.1 (by omega) (by omega) (by omega)
                      refine w_ii rfl ⟨by show (-2147483648 : Int) ≤ 1; omega, by show 1 < (2147483648 : Int); omega⟩ ?_
                      show wz _ _ _ _ [some (.inr (.inr (some m))), some (.inl (PL 4)), some (.inl 1)] _ _ _ _ _
                      refine w_goto ?_
                      refine w_iln rfl ?_
                      refine w_ic ?_
                      refine w_cmge (fun c22 => ?_) (fun c22 => ?_)
                      · exfalso; omega
                      · skip
                        refine w_aln rfl ?_
                        refine w_ic ?_
                        refine w_iln rfl ?_
                        refine w_ic ?_
                        refine w_rem (by decide) ?_
                        intro z23 hz23 ez23
                        obtain rfl : z23 = 1 := ez23.trans (by decide)
                        refine w_ifne (fun c24 => ?_) (fun c24 => ?_)
                        · skip
                          refine w_sp ?_
                          refine w_cv (st := []) rfl gm rfl (Nat.le_of_ble_eq_true rfl) (fun kk h => h) (r_X12_takes2 (d := d + 1) hB s21 (rv_y_le hB (rv_y_le hB (rv_y_le hB hqn))) (sp_num.mono hvk18 (fun fk25 ak25 hfk25 Mk25 Fk25 => ?_) (fun bk25 ck25 ek25 hvk25 Mk25 sk25 => ?_)))
                          · skip
                            refine w_ifne (fun c26 => ?_) (fun c26 => ?_)
                            · exfalso; omega
                            · skip
                              refine w_ic ?_
                              refine w_iret (fun _ => Or.inl rfl) ?_
                              exact w_iret (fun _ => Or.inl rfl) (hfk25 _ Fk25)
                          · skip
                            refine w_ifne (fun c27 => ?_) (fun c27 => ?_)
                            · skip
                              refine w_aln rfl ?_
                              refine w_gr gm rfl (by decide) rfl ((congrFun (congrFun sk25.2.2.2.2.2.1 m) 7).trans r7) ?_
                              refine w_ic ?_
                              refine w_bp ?_
                              refine w_iln rfl ?_
                              refine w_mul ⟨by show (-2147483648 : Int) ≤ 9 * (PL 4); omega, by show 9 * (PL 4) < (2147483648 : Int); omega⟩ ?_
                              refine w_add ⟨by show (-2147483648 : Int) ≤ 4 + (9 * (PL 4)); omega, by show 4 + (9 * (PL 4)) < (2147483648 : Int); omega⟩ ?_
                              refine w_iln rfl ?_
                              refine w_add ⟨by show (-2147483648 : Int) ≤ (4 + (9 * (PL 4))) + 1; omega, by show (4 + (9 * (PL 4))) + 1 < (2147483648 : Int); omega⟩ ?_
                              refine w_aln rfl ?_
                              refine w_gi gm rfl (by decide) rfl (sk25.1.2.2.2.2.2.1) ?_
                              refine w_iast gha rfl (by decide) (by show (0 : Int) ≤ (4 + (9 * (PL 4))) + 1; omega) (by show (4 + (9 * (PL 4))) + 1 < ((221 : Nat) : Int); omega) ?_
                              have s28 := sk25.htold (j := ((4 + (9 * (PL 4))) + 1).toNat) (k := (PL 4).toNat) (i := 1) (v := (T (rv_x T (rv_x T (rv_x T q)))).2.2.1) hB.1 (by omega) (by omega) (by omega)
                              refine w_ii rfl ⟨by show (-2147483648 : Int) ≤ 2; omega, by show 2 < (2147483648 : Int); omega⟩ ?_
                              show wz _ _ _ _ [some (.inr (.inr (some m))), some (.inl (PL 4)), some (.inl 2)] _ _ _ _ _
                              refine w_goto ?_
                              refine w_iln rfl ?_
                              refine w_ic ?_
                              refine w_cmge (fun c29 => ?_) (fun c29 => ?_)
                              · exfalso; omega
                              · skip
                                refine w_aln rfl ?_
                                refine w_ic ?_
                                refine w_iln rfl ?_
                                refine w_ic ?_
                                refine w_rem (by decide) ?_
                                intro z30 hz30 ez30
                                obtain rfl : z30 = 0 := ez30.trans (by decide)
                                refine w_ifne (fun c31 => ?_) (fun c31 => ?_)
                                · exfalso; omega
                                · skip
                                  refine w_bp ?_
                                  refine w_goto ?_
                                  refine w_cv (st := []) rfl gm rfl (Nat.le_of_ble_eq_true rfl) (fun kk h => h) (r_X12_takes2 (d := d + 1) hB s28 (rv_y_le hB (rv_y_le hB (rv_y_le hB (rv_y_le hB hqn)))) (sp_num.mono hvk25 (fun fk32 ak32 hfk32 Mk32 Fk32 => ?_) (fun bk32 ck32 ek32 hvk32 Mk32 sk32 => ?_)))
                                  · skip
                                    refine w_ifne (fun c33 => ?_) (fun c33 => ?_)
                                    · exfalso; omega
                                    · skip
                                      refine w_ic ?_
                                      refine w_iret (fun _ => Or.inl rfl) ?_
                                      exact w_iret (fun _ => Or.inl rfl) (hfk32 _ Fk32)
                                  · skip
                                    refine w_ifne (fun c34 => ?_) (fun c34 => ?_)
                                    · skip
                                      refine w_aln rfl ?_
                                      refine w_gr gm rfl (by decide) rfl ((congrFun (congrFun sk32.2.2.2.2.2.1 m) 7).trans r7) ?_
                                      refine w_ic ?_
                                      refine w_bp ?_
                                      refine w_iln rfl ?_
                                      refine w_mul ⟨by show (-2147483648 : Int) ≤ 9 * (PL 4); omega, by show 9 * (PL 4) < (2147483648 : Int); omega⟩ ?_
                                      refine w_add ⟨by show (-2147483648 : Int) ≤ 4 + (9 * (PL 4)); omega, by show 4 + (9 * (PL 4)) < (2147483648 : Int); omega⟩ ?_
                                      refine w_iln rfl ?_
                                      refine w_add ⟨by show (-2147483648 : Int) ≤ (4 + (9 * (PL 4))) + 2; omega, by show (4 + (9 * (PL 4))) + 2 < (2147483648 : Int); omega⟩ ?_
                                      refine w_aln rfl ?_
                                      refine w_gi gm rfl (by decide) rfl (sk32.1.2.2.2.2.2.1) ?_
                                      refine w_iast gha rfl (by decide) (by show (0 : Int) ≤ (4 + (9 * (PL 4))) + 2; omega) (by show (4 + (9 * (PL 4))) + 2 < ((221 : Nat) : Int); omega) ?_
                                      have s35 := sk32.htold (j := ((4 + (9 * (PL 4))) + 2).toNat) (k := (PL 4).toNat) (i := 2) (v := (T (rv_x T (rv_x T (rv_x T (rv_x T q))))).2.2.1) hB.1 (by omega) (by omega) (by omega)
                                      refine w_ii rfl ⟨by show (-2147483648 : Int) ≤ 3; omega, by show 3 < (2147483648 : Int); omega⟩ ?_
                                      show wz _ _ _ _ [some (.inr (.inr (some m))), some (.inl (PL 4)), some (.inl 3)] _ _ _ _ _
                                      refine w_goto ?_
                                      refine w_iln rfl ?_
                                      refine w_ic ?_
                                      refine w_cmge (fun c36 => ?_) (fun c36 => ?_)
                                      · exfalso; omega
                                      · skip
                                        refine w_aln rfl ?_
                                        refine w_ic ?_
                                        refine w_iln rfl ?_
                                        refine w_ic ?_
                                        refine w_rem (by decide) ?_
                                        intro z37 hz37 ez37
                                        obtain rfl : z37 = 1 := ez37.trans (by decide)
                                        refine w_ifne (fun c38 => ?_) (fun c38 => ?_)
                                        · skip
                                          refine w_sp ?_
                                          refine w_cv (st := []) rfl gm rfl (Nat.le_of_ble_eq_true rfl) (fun kk h => h) (r_X12_takes2 (d := d + 1) hB s35 (rv_y_le hB (rv_y_le hB (rv_y_le hB (rv_y_le hB (rv_y_le hB hqn))))) (sp_num.mono hvk32 (fun fk39 ak39 hfk39 Mk39 Fk39 => ?_) (fun bk39 ck39 ek39 hvk39 Mk39 sk39 => ?_)))
                                          · skip
                                            refine w_ifne (fun c40 => ?_) (fun c40 => ?_)
                                            · exfalso; omega
                                            · skip
                                              refine w_ic ?_
                                              refine w_iret (fun _ => Or.inl rfl) ?_
                                              exact w_iret (fun _ => Or.inl rfl) (hfk39 _ Fk39)
                                          · skip
                                            refine w_ifne (fun c41 => ?_) (fun c41 => ?_)
                                            · skip
                                              refine w_aln rfl ?_
                                              refine w_gr gm rfl (by decide) rfl ((congrFun (congrFun sk39.2.2.2.2.2.1 m) 7).trans r7) ?_
                                              refine w_ic ?_
                                              refine w_bp ?_
                                              refine w_iln rfl ?_
                                              refine w_mul ⟨by show (-2147483648 : Int) ≤ 9 * (PL 4); omega, by show 9 * (PL 4) < (2147483648 : Int); omega⟩ ?_
                                              refine w_add ⟨by show (-2147483648 : Int) ≤ 4 + (9 * (PL 4)); omega, by show 4 + (9 * (PL 4)) < (2147483648 : Int); omega⟩ ?_
                                              refine w_iln rfl ?_
                                              refine w_add ⟨by show (-2147483648 : Int) ≤ (4 + (9 * (PL 4))) + 3; omega, by show (4 + (9 * (PL 4))) + 3 < (2147483648 : Int); omega⟩ ?_
                                              refine w_aln rfl ?_
                                              refine w_gi gm rfl (by decide) rfl (sk39.1.2.2.2.2.2.1) ?_
                                              refine w_iast gha rfl (by decide) (by show (0 : Int) ≤ (4 + (9 * (PL 4))) + 3; omega) (by show (4 + (9 * (PL 4))) + 3 < ((221 : Nat) : Int); omega) ?_
                                              have s42 := sk39.htold (j := ((4 + (9 * (PL 4))) + 3).toNat) (k := (PL 4).toNat) (i := 3) (v := (T (rv_x T (rv_x T (rv_x T (rv_x T (rv_x T q)))))).2.2.1) hB.1 (by omega) (by omega) (by omega)
                                              refine w_ii rfl ⟨by show (-2147483648 : Int) ≤ 4; omega, by show 4 < (2147483648 : Int); omega⟩ ?_
                                              show wz _ _ _ _ [some (.inr (.inr (some m))), some (.inl (PL 4)), some (.inl 4)] _ _ _ _ _
                                              refine w_goto ?_
                                              refine w_iln rfl ?_
                                              refine w_ic ?_
                                              refine w_cmge (fun c43 => ?_) (fun c43 => ?_)
                                              · skip
                                                refine w_aln rfl ?_
                                                refine w_gr gm rfl (by decide) rfl ((congrFun (congrFun s42.2.2.2.2.2.1 m) 7).trans r7) ?_
                                                refine w_ic ?_
                                                refine w_dup2 ?_
                                                refine w_iald (v := PL 4) gha rfl (by show (0 : Int) ≤ 0; omega) (by show 0 < ((221 : Nat) : Int); omega) (s42.2.2.1.1.trans (rfl)) ?_
                                                refine w_ic ?_
                                                refine w_add ⟨by show (-2147483648 : Int) ≤ (PL 4) + 1; omega, by show (PL 4) + 1 < (2147483648 : Int); omega⟩ ?_
                                                refine w_iast gha rfl (by decide) (by show (0 : Int) ≤ 0; omega) (by show 0 < ((221 : Nat) : Int); omega) ?_
                                                have s44 := s42.htow (j := (0 : Int).toNat) (v := (PL 4) + 1) hB.1 rfl
                                                refine w_ic ?_
                                                refine w_iret (fun _ => Or.inr rfl) ?_
                                                exact w_iret (fun _ => Or.inr rfl) (hvk39 (Nat.le_trans (Nat.le_trans (Nat.le_trans (Nat.le_trans (Nat.le_trans (Nat.le_refl q) (rv_y_ge hB hqn)) (rv_y_ge hB (rv_y_le hB hqn))) (rv_y_ge hB (rv_y_le hB (rv_y_le hB hqn)))) (rv_y_ge hB (rv_y_le hB (rv_y_le hB (rv_y_le hB hqn))))) (rv_y_ge hB (rv_y_le hB (rv_y_le hB (rv_y_le hB (rv_y_le hB hqn)))))) (rv_y_le hB (rv_y_le hB (rv_y_le hB (rv_y_le hB (rv_y_le hB hqn))))) ⟨by rw [show (rv_up PL 4 ((PL 4) + 1)) 4 = (PL 4) + 1 from rv_up_s]; omega, by rw [show (rv_up PL 4 ((PL 4) + 1)) 4 = (PL 4) + 1 from rv_up_s]; omega, by rw [show (rv_up PL 4 ((PL 4) + 1)) 5 = PL 5 from (rv_up_n (by decide))]; omega, by rw [show (rv_up PL 4 ((PL 4) + 1)) 5 = PL 5 from (rv_up_n (by decide))]; omega⟩ _ _ _ (rv_R.bb (by rw [show (rv_up PL 4 ((PL 4) + 1)) 4 = (PL 4) + 1 from rv_up_s]; omega) s44))
                                              · exfalso; omega
                                            · exfalso; omega
                                        · exfalso; omega
                                    · exfalso; omega
                            · exfalso; omega
                        · exfalso; omega
                    · exfalso; omega
            · exfalso; omega
        · exfalso; omega
      · skip
        have hvk5 := sp_nam.bad h4 ck5
        refine w_ifne (fun c45 => ?_) (fun c45 => ?_)
        · exfalso; omega
        · skip
          refine w_aln rfl ?_
          refine w_ic ?_
          refine w_cv (st := []) rfl gm rfl (Nat.le_of_ble_eq_true rfl) (fun kk h => h) (r_X12_bad2 (d := d + 3) hB s3 (fun MF46 F46 => ?_))
          refine w_iret (fun _ => Or.inl rfl) ?_
          exact w_iret (fun _ => Or.inl rfl) (hvk5 _ F46)
    · skip
      refine w_aln rfl ?_
      refine w_ic ?_
      have h48 := h.1 (by omega)
      clear h
      refine w_cv (st := []) rfl gm rfl (Nat.le_of_ble_eq_true rfl) (fun kk h => h) (r_X12_bad2 (d := d + 3) hB hS (fun MF47 F47 => ?_))
      refine w_iret (fun _ => Or.inl rfl) ?_
      exact w_iret (fun _ => Or.inl rfl) (h48 _ F47)
set_option maxHeartbeats 4000000 in
theorem r_rR_1 {G : mj_G} {M0 M : mj_M} {B : Nat → Int} {n lim m bt ha hd ns rs sx : Nat} {T : Nat → Nat × Nat × Int × List Int × Nat} {PL WA OA : Nat → Int} {TO BI : Nat → Nat → Int} {nm : Nat → List Int} {g z r : Int} {Q : mj_P} {d q : Nat} (hB : rv_BT G M0 B n lim m bt ha hd ns rs sx T) (hS : rv_R M0 n lim m bt ha hd ns rs sx (T q) PL WA OA TO BI nm (PL 4) g z r M) (hqn : q ≤ n) (hb : rv_pb PL) (hk1 : (T q).1 = 1) (hj : rv_rs.getD 1 [] = (T q).2.2.2.1) (h : sp_water T PL WA OA TO BI nm q (fun f a => ∀ M', rv_FR M0 m sx ha f a M' → Q (some (.inl 0)) G M') (fun PL WA OA TO BI nm q' => q ≤ q' → q' ≤ n → rv_pb PL → ∀ g z M', rv_R M0 n lim m bt ha hd ns rs sx (T (rv_x T q')) PL WA OA TO BI nm (PL 4) g z r M' → Q (some (.inl 1)) G M')) : mj_R mj_tab (d + 6) 237 [.inr (.inr (some m))] G M Q := by
  obtain ⟨⟨gm, gbt, gha, ghd, gns, grs, r1, r7, r23, r9, r10, rb, rr, n1, n2, gsx, r6⟩, hT⟩ := id hB
  obtain ⟨b1, b2, b3, b4⟩ := id hb
  unfold sp_water at h
  refine ⟨Nat.le_of_ble_eq_true rfl, ?_⟩
  show wz (d + 5) mt_X12_row.2.2.2.2.1 Q mt_X12_row.2.2.2.2.1 [some (.inr (.inr (some m))), none] [] G M _ _
  refine w_aln rfl ?_
  refine w_l2 ?_
  refine w_cv (st := []) rfl gm rfl (Nat.le_of_ble_eq_true rfl) (fun kk h => h) (r_isWord0 (d := d + 4) (i := 0) hB hS hqn (by decide) (by decide +kernel) (fun e => absurd (rv_rs_i 0 (by decide) 1 (by decide) (e.2.trans hj.symm)) (by decide)) ?_)
  refine w_ifeq (fun c1 => ?_) (fun c1 => ?_)
  · skip
    refine w_aln rfl ?_
    refine w_l2 ?_
    refine w_cv (st := []) rfl gm rfl (Nat.le_of_ble_eq_true rfl) (fun kk h => h) (r_isWord1 (d := d + 4) (i := 1) hB hS hqn (by decide) (by decide +kernel) ⟨hk1, hj⟩ ?_)
    refine w_ifeq (fun c2 => ?_) (fun c2 => ?_)
    · exfalso; omega
    · skip
      refine w_aln rfl ?_
      refine w_cv (st := []) rfl gm rfl (Nat.le_of_ble_eq_true rfl) (fun kk h => h) (r_nxtT (d := d + 3) hB hS (by omega) (by omega) hqn (fun Ms3 s3 => ?_))
      refine w_aln rfl ?_
      have t4 := rv_tkc_f (rv_y_w hB (rv_y_le hB hqn)).1
      refine w_gi gm rfl (by decide) rfl (s3.2.1.1) ?_
      refine w_ic ?_
      refine w_cmeq (fun c5 => ?_) (fun c5 => ?_)
      · skip
        refine w_aln rfl ?_
        have nn6 := s3.2.1.2.2.2.1 (by omega)
        refine w_gi gm rfl (by decide) rfl ((s3.2.1.2.2.2.1 (by omega)).1) ?_
        refine w_bp ?_
        refine w_cmle (fun c7 => ?_) (fun c7 => ?_)
        · skip
          refine w_aln rfl ?_
          refine w_gi gm rfl (by decide) rfl (s3.1.2.2.2.1.trans (rfl)) ?_
          refine w_aln rfl ?_
          have nn8 := s3.2.1.2.2.2.1 (by omega)
          refine w_gi gm rfl (by decide) rfl ((s3.2.1.2.2.2.1 (by omega)).1) ?_
          refine w_cs (st := []) rfl (Nat.le_of_ble_eq_true rfl) (fun kk h => h) ⟨Nat.le_of_ble_eq_true rfl, ?_⟩
          show wz (d + 4) mt_X12_bitOf.2.2.2.2.1 _ mt_X12_bitOf.2.2.2.2.1 [some (.inl (PL 11)), some (.inl ((T (rv_x T q)).2.2.1))] [] _ _ _ _
          refine w_iln rfl ?_
          refine w_iln rfl ?_
          refine w_shr ?_
          intro z9 hz9 ez9
          refine w_ic ?_
          refine w_and ?_
          intro z10 hz10 ez10
          obtain rfl : z10 = rv_bt (PL 11) ((T (rv_x T q)).2.2.1) := by rw [ez10, ez9]; rfl
          have hz10 := rv_bt_01 (PL 11) ((T (rv_x T q)).2.2.1)
          refine w_ic ?_
          refine w_cmne (fun c11 => ?_) (fun c11 => ?_)
          · skip
            refine w_ic ?_
            refine w_iret (fun _ => Or.inl rfl) ?_
            refine w_ifeq (fun c12 => ?_) (fun c12 => ?_)
            · skip
              refine w_aln rfl ?_
              refine w_dupr ?_
              refine w_gi gm rfl (by decide) rfl (s3.1.2.2.2.1.trans (rfl)) ?_
              refine w_ic ?_
              refine w_aln rfl ?_
              have nn13 := s3.2.1.2.2.2.1 (by omega)
              refine w_gi gm rfl (by decide) rfl ((s3.2.1.2.2.2.1 (by omega)).1) ?_
              refine w_shl ?_
              intro z14 hz14 ez14
              refine w_or ?_
              intro z15 hz15 ez15
              obtain rfl : z15 = rv_bs (PL 11) ((T (rv_x T q)).2.2.1) := by rw [ez15, ez14]; rfl
              refine w_pi gm rfl (by decide) rfl (fun q => by cases q) ?_
              have s16 := s3.srain (v := (rv_bs (PL 11) ((T (rv_x T q)).2.2.1))) hB.1
              refine w_aln rfl ?_
              have nn17 := s16.2.1.2.2.2.1 (by omega)
              refine w_gi gm rfl (by decide) rfl ((s16.2.1.2.2.2.1 (by omega)).1) ?_
              refine w_isn ?_
              show wz _ _ _ _ [some (.inr (.inr (some m))), some (.inl ((T (rv_x T q)).2.2.1))] _ _ _ _ _
              refine w_aln rfl ?_
              refine w_cv (st := []) rfl gm rfl (Nat.le_of_ble_eq_true rfl) (fun kk h => h) (r_nxtT (d := d + 3) hB s16 (by omega) (by omega) (rv_y_le hB hqn) (fun Ms18 s18 => ?_))
              refine w_aln rfl ?_
              refine w_ic ?_
              refine w_sp ?_
              have h19 := h.1 (by omega)
              clear h
              have h20 := h19.1 (by omega)
              clear h19
              have h21 := h20.1 (by omega)
              clear h20
              have h22 := h21.1 (by omega)
              clear h21
              refine w_cv (st := []) rfl gm rfl (Nat.le_of_ble_eq_true rfl) (fun kk h => h) (r_X12_takes2 (d := d + 2) hB s18 (rv_y_le hB (rv_y_le hB hqn)) (sp_num.mono h22 (fun fk23 ak23 hfk23 Mk23 Fk23 => ?_) (fun bk23 ck23 ek23 hvk23 Mk23 sk23 => ?_)))
              · skip
                refine w_ifne (fun c24 => ?_) (fun c24 => ?_)
                · exfalso; omega
                · skip
                  refine w_ic ?_
                  exact w_iret (fun _ => Or.inl rfl) (hfk23 _ Fk23)
              · skip
                refine w_ifne (fun c25 => ?_) (fun c25 => ?_)
                · skip
                  refine w_aln rfl ?_
                  refine w_gr gm rfl (by decide) rfl ((congrFun (congrFun sk23.2.2.2.2.2.1 m) 7).trans r7) ?_
                  refine w_bp ?_
                  refine w_iln rfl ?_
                  refine w_add ⟨by show (-2147483648 : Int) ≤ 76 + ((T (rv_x T q)).2.2.1); omega, by show 76 + ((T (rv_x T q)).2.2.1) < (2147483648 : Int); omega⟩ ?_
                  refine w_aln rfl ?_
                  refine w_gi gm rfl (by decide) rfl (sk23.1.2.2.2.2.2.1) ?_
                  refine w_iast gha rfl (by decide) (by show (0 : Int) ≤ 76 + ((T (rv_x T q)).2.2.1); omega) (by show 76 + ((T (rv_x T q)).2.2.1) < ((221 : Nat) : Int); omega) ?_
                  have s26 := sk23.hwat (j := (76 + ((T (rv_x T q)).2.2.1)).toNat) (i := ((T (rv_x T q)).2.2.1).toNat) (v := (T (rv_x T (rv_x T q))).2.2.1) hB.1 (by omega) (by omega)
                  refine w_ic ?_
                  exact w_iret (fun _ => Or.inr rfl) (hvk23 (Nat.le_trans (Nat.le_trans (Nat.le_refl q) (rv_y_ge hB hqn)) (rv_y_ge hB (rv_y_le hB hqn))) (rv_y_le hB (rv_y_le hB hqn)) ⟨by rw [show (rv_up PL 11 (rv_bs (PL 11) ((T (rv_x T q)).2.2.1))) 4 = PL 4 from (rv_up_n (by decide))]; omega, by rw [show (rv_up PL 11 (rv_bs (PL 11) ((T (rv_x T q)).2.2.1))) 4 = PL 4 from (rv_up_n (by decide))]; omega, by rw [show (rv_up PL 11 (rv_bs (PL 11) ((T (rv_x T q)).2.2.1))) 5 = PL 5 from (rv_up_n (by decide))]; omega, by rw [show (rv_up PL 11 (rv_bs (PL 11) ((T (rv_x T q)).2.2.1))) 5 = PL 5 from (rv_up_n (by decide))]; omega⟩ _ _ _ (rv_R.bb (show (rv_up PL 11 (rv_bs (PL 11) ((T (rv_x T q)).2.2.1))) 4 = PL 4 from (rv_up_n (by decide))).symm s26))
                · exfalso; omega
            · exfalso; omega
          · skip
            refine w_ic ?_
            refine w_goto ?_
            refine w_iret (fun _ => Or.inr rfl) ?_
            refine w_ifeq (fun c27 => ?_) (fun c27 => ?_)
            · exfalso; omega
            · skip
              refine w_aln rfl ?_
              refine w_ic ?_
              have h29 := h.1 (by omega)
              clear h
              have h30 := h29.1 (by omega)
              clear h29
              have h31 := h30.1 (by omega)
              clear h30
              have h32 := h31.2 (by omega)
              clear h31
              refine w_cv (st := []) rfl gm rfl (Nat.le_of_ble_eq_true rfl) (fun kk h => h) (r_X12_bad2 (d := d + 4) hB s3 (fun MF28 F28 => ?_))
              exact w_iret (fun _ => Or.inl rfl) (h32 _ F28)
        · skip
          refine w_aln rfl ?_
          refine w_ic ?_
          have h34 := h.1 (by omega)
          clear h
          have h35 := h34.1 (by omega)
          clear h34
          have h36 := h35.2 (by omega)
          clear h35
          refine w_cv (st := []) rfl gm rfl (Nat.le_of_ble_eq_true rfl) (fun kk h => h) (r_X12_bad2 (d := d + 4) hB s3 (fun MF33 F33 => ?_))
          exact w_iret (fun _ => Or.inl rfl) (h36 _ F33)
      · skip
        refine w_aln rfl ?_
        refine w_ic ?_
        have h38 := h.2 (by omega)
        clear h
        refine w_cv (st := []) rfl gm rfl (Nat.le_of_ble_eq_true rfl) (fun kk h => h) (r_X12_bad2 (d := d + 4) hB s3 (fun MF37 F37 => ?_))
        exact w_iret (fun _ => Or.inl rfl) (h38 _ F37)
  · exfalso; omega
set_option maxHeartbeats 4000000 in
theorem r_rR_2 {G : mj_G} {M0 M : mj_M} {B : Nat → Int} {n lim m bt ha hd ns rs sx : Nat} {T : Nat → Nat × Nat × Int × List Int × Nat} {PL WA OA : Nat → Int} {TO BI : Nat → Nat → Int} {nm : Nat → List Int} {g z r : Int} {Q : mj_P} {d q : Nat} (hB : rv_BT G M0 B n lim m bt ha hd ns rs sx T) (hS : rv_R M0 n lim m bt ha hd ns rs sx (T q) PL WA OA TO BI nm (PL 4) g z r M) (hqn : q ≤ n) (hb : rv_pb PL) (hk1 : (T q).1 = 1) (hj : rv_rs.getD 2 [] = (T q).2.2.2.1) (h : sp_bid T PL WA OA TO BI nm q (fun f a => ∀ M', rv_FR M0 m sx ha f a M' → Q (some (.inl 0)) G M') (fun PL WA OA TO BI nm q' => q ≤ q' → q' ≤ n → rv_pb PL → ∀ g z M', rv_R M0 n lim m bt ha hd ns rs sx (T (rv_x T q')) PL WA OA TO BI nm (PL 4) g z r M' → Q (some (.inl 1)) G M')) : mj_R mj_tab (d + 6) 237 [.inr (.inr (some m))] G M Q := by
  obtain ⟨⟨gm, gbt, gha, ghd, gns, grs, r1, r7, r23, r9, r10, rb, rr, n1, n2, gsx, r6⟩, hT⟩ := id hB
  obtain ⟨b1, b2, b3, b4⟩ := id hb
  unfold sp_bid at h
  refine ⟨Nat.le_of_ble_eq_true rfl, ?_⟩
  show wz (d + 5) mt_X12_row.2.2.2.2.1 Q mt_X12_row.2.2.2.2.1 [some (.inr (.inr (some m))), none] [] G M _ _
  refine w_aln rfl ?_
  refine w_l2 ?_
  refine w_cv (st := []) rfl gm rfl (Nat.le_of_ble_eq_true rfl) (fun kk h => h) (r_isWord0 (d := d + 4) (i := 0) hB hS hqn (by decide) (by decide +kernel) (fun e => absurd (rv_rs_i 0 (by decide) 2 (by decide) (e.2.trans hj.symm)) (by decide)) ?_)
  refine w_ifeq (fun c1 => ?_) (fun c1 => ?_)
  · skip
    refine w_aln rfl ?_
    refine w_l2 ?_
    refine w_cv (st := []) rfl gm rfl (Nat.le_of_ble_eq_true rfl) (fun kk h => h) (r_isWord0 (d := d + 4) (i := 1) hB hS hqn (by decide) (by decide +kernel) (fun e => absurd (rv_rs_i 1 (by decide) 2 (by decide) (e.2.trans hj.symm)) (by decide)) ?_)
    refine w_ifeq (fun c2 => ?_) (fun c2 => ?_)
    · skip
      refine w_aln rfl ?_
      refine w_l2 ?_
      refine w_cv (st := []) rfl gm rfl (Nat.le_of_ble_eq_true rfl) (fun kk h => h) (r_isWord1 (d := d + 4) (i := 2) hB hS hqn (by decide) (by decide +kernel) ⟨hk1, hj⟩ ?_)
      refine w_ifeq (fun c3 => ?_) (fun c3 => ?_)
      · exfalso; omega
      · skip
        refine w_aln rfl ?_
        refine w_cv (st := []) rfl gm rfl (Nat.le_of_ble_eq_true rfl) (fun kk h => h) ⟨Nat.le_of_ble_eq_true rfl, ?_⟩
        show wz (d + 4) mt_X12_readBid.2.2.2.2.1 _ mt_X12_readBid.2.2.2.2.1 [some (.inr (.inr (some m))), none, none] [] _ _ _ _
        refine w_aln rfl ?_
        refine w_gi gm rfl (by decide) rfl (hS.1.2.2.1.trans (rfl)) ?_
        refine w_bp ?_
        refine w_cmne (fun c4 => ?_) (fun c4 => ?_)
        · skip
          refine w_aln rfl ?_
          refine w_cv (st := []) rfl gm rfl (Nat.le_of_ble_eq_true rfl) (fun kk h => h) (r_nxtT (d := d + 2) hB hS (by omega) (by omega) hqn (fun Ms5 s5 => ?_))
          refine w_aln rfl ?_
          have h6 := h.2 (by omega)
          clear h
          refine w_cv (st := []) rfl gm rfl (Nat.le_of_ble_eq_true rfl) (fun kk h => h) (r_X12_isName2 (d := d + 3) hB s5 (rv_y_le hB hqn) (fun bk7 ck7 => ?_) (fun ck7 => ?_))
          · skip
            have hvk7 := (h6.1 bk7).1 ck7
            refine w_ifne (fun c8 => ?_) (fun c8 => ?_)
            · skip
              refine w_aln rfl ?_
              refine w_bp ?_
              refine w_aln rfl ?_
              refine w_gr gm rfl (by decide) rfl ((congrFun (congrFun s5.2.2.2.2.2.1 m) 7).trans r7) ?_
              refine w_ic ?_
              refine w_iald (v := PL 4) gha rfl (by show (0 : Int) ≤ 0; omega) (by show 0 < ((221 : Nat) : Int); omega) (s5.2.2.1.1.trans (rfl)) ?_
              refine w_cv (st := []) rfl gm rfl (Nat.le_of_ble_eq_true rfl) (fun kk h => h) (r_X12_find2 (d := d + 3) hB s5 hb (by omega) (by omega) (rv_y_wo hB (rv_y_le hB hqn) (by omega)) (sp_find.mono hvk7 (fun rk9 lk9 ck9 mk9 hvk9 => ?_) (fun mk9 hvk9 => ?_)))
              · skip
                refine w_isn ?_
                show wz _ _ _ _ [some (.inr (.inr (some m))), some (.inl ((rk9 : Nat) : Int)), none] _ _ _ _ _
                refine w_iln rfl ?_
                refine w_ifge (fun c10 => ?_) (fun c10 => ?_)
                · skip
                  refine w_aln rfl ?_
                  refine w_cv (st := []) rfl gm rfl (Nat.le_of_ble_eq_true rfl) (fun kk h => h) (r_nxtT (d := d + 2) hB s5 (by omega) (by omega) (rv_y_le hB hqn) (fun Ms11 s11 => ?_))
                  refine w_aln rfl ?_
                  have t12 := rv_tkc_f (rv_y_w hB (rv_y_le hB (rv_y_le hB hqn))).1
                  refine w_gi gm rfl (by decide) rfl (s11.2.1.1) ?_
                  refine w_ic ?_
                  refine w_cmeq (fun c13 => ?_) (fun c13 => ?_)
                  · skip
                    refine w_aln rfl ?_
                    have nn14 := s11.2.1.2.2.2.1 (by omega)
                    refine w_gi gm rfl (by decide) rfl ((s11.2.1.2.2.2.1 (by omega)).1) ?_
                    refine w_bp ?_
                    refine w_cmle (fun c15 => ?_) (fun c15 => ?_)
                    · skip
                      refine w_aln rfl ?_
                      have nn16 := s11.2.1.2.2.2.1 (by omega)
                      refine w_gi gm rfl (by decide) rfl ((s11.2.1.2.2.2.1 (by omega)).1) ?_
                      refine w_isn ?_
                      show wz _ _ _ _ [some (.inr (.inr (some m))), some (.inl ((rk9 : Nat) : Int)), some (.inl ((T (rv_x T (rv_x T q))).2.2.1))] _ _ _ _ _
                      refine w_aln rfl ?_
                      refine w_gr gm rfl (by decide) rfl ((congrFun (congrFun s11.2.2.2.2.2.1 m) 7).trans r7) ?_
                      refine w_bp ?_
                      refine w_bp ?_
                      refine w_iln rfl ?_
                      refine w_mul ⟨by show (-2147483648 : Int) ≤ 12 * ((rk9 : Nat) : Int); omega, by show 12 * ((rk9 : Nat) : Int) < (2147483648 : Int); omega⟩ ?_
                      refine w_add ⟨by show (-2147483648 : Int) ≤ 88 + (12 * ((rk9 : Nat) : Int)); omega, by show 88 + (12 * ((rk9 : Nat) : Int)) < (2147483648 : Int); omega⟩ ?_
                      refine w_iln rfl ?_
                      refine w_add ⟨by show (-2147483648 : Int) ≤ (88 + (12 * ((rk9 : Nat) : Int))) + ((T (rv_x T (rv_x T q))).2.2.1); omega, by show (88 + (12 * ((rk9 : Nat) : Int))) + ((T (rv_x T (rv_x T q))).2.2.1) < (2147483648 : Int); omega⟩ ?_
                      have b17 : 0 ≤ (BI (((rk9 : Nat) : Int).toNat) (((T (rv_x T (rv_x T q))).2.2.1).toNat)) := (s11.2.2.1.2.2.2.2.2.2 _ _ (by omega) (by omega)).2
                      refine w_iald (v := (BI (((rk9 : Nat) : Int).toNat) (((T (rv_x T (rv_x T q))).2.2.1).toNat))) gha rfl (by show (0 : Int) ≤ (88 + (12 * ((rk9 : Nat) : Int))) + ((T (rv_x T (rv_x T q))).2.2.1); omega) (by show (88 + (12 * ((rk9 : Nat) : Int))) + ((T (rv_x T (rv_x T q))).2.2.1) < ((221 : Nat) : Int); omega) (by rw [show ((88 + (12 * ((rk9 : Nat) : Int))) + ((T (rv_x T (rv_x T q))).2.2.1)).toNat = 88 + 12 * ((rk9 : Nat) : Int).toNat + ((T (rv_x T (rv_x T q))).2.2.1).toNat by omega]; exact (s11.2.2.1.2.2.2.2.2.2 _ _ (by omega) (by omega)).1) ?_
                      refine w_ifle (fun c18 => ?_) (fun c18 => ?_)
                      · skip
                        refine w_aln rfl ?_
                        refine w_cv (st := []) rfl gm rfl (Nat.le_of_ble_eq_true rfl) (fun kk h => h) (r_nxtT (d := d + 2) hB s11 (by omega) (by omega) (rv_y_le hB (rv_y_le hB hqn)) (fun Ms19 s19 => ?_))
                        refine w_aln rfl ?_
                        refine w_ic ?_
                        refine w_sp ?_
                        have h20 := hvk9.2 (by omega)
                        clear hvk9
                        have h21 := h20.1 (by omega)
                        clear h20
                        have h22 := h21.1 (by omega)
                        clear h21
                        have h23 := h22.1 (by omega)
                        clear h22
                        have h24 := h23.1 (by omega)
                        clear h23
                        refine w_cv (st := []) rfl gm rfl (Nat.le_of_ble_eq_true rfl) (fun kk h => h) (r_X12_takes2 (d := d + 1) hB s19 (rv_y_le hB (rv_y_le hB (rv_y_le hB hqn))) (sp_num.mono h24 (fun fk25 ak25 hfk25 Mk25 Fk25 => ?_) (fun bk25 ck25 ek25 hvk25 Mk25 sk25 => ?_)))
                        · skip
                          refine w_ifne (fun c26 => ?_) (fun c26 => ?_)
                          · exfalso; omega
                          · skip
                            refine w_ic ?_
                            refine w_iret (fun _ => Or.inl rfl) ?_
                            exact w_iret (fun _ => Or.inl rfl) (hfk25 _ Fk25)
                        · skip
                          refine w_ifne (fun c27 => ?_) (fun c27 => ?_)
                          · skip
                            refine w_aln rfl ?_
                            refine w_gr gm rfl (by decide) rfl ((congrFun (congrFun sk25.2.2.2.2.2.1 m) 7).trans r7) ?_
                            refine w_bp ?_
                            refine w_bp ?_
                            refine w_iln rfl ?_
                            refine w_mul ⟨by show (-2147483648 : Int) ≤ 12 * ((rk9 : Nat) : Int); omega, by show 12 * ((rk9 : Nat) : Int) < (2147483648 : Int); omega⟩ ?_
                            refine w_add ⟨by show (-2147483648 : Int) ≤ 88 + (12 * ((rk9 : Nat) : Int)); omega, by show 88 + (12 * ((rk9 : Nat) : Int)) < (2147483648 : Int); omega⟩ ?_
                            refine w_iln rfl ?_
                            refine w_add ⟨by show (-2147483648 : Int) ≤ (88 + (12 * ((rk9 : Nat) : Int))) + ((T (rv_x T (rv_x T q))).2.2.1); omega, by show (88 + (12 * ((rk9 : Nat) : Int))) + ((T (rv_x T (rv_x T q))).2.2.1) < (2147483648 : Int); omega⟩ ?_
                            refine w_aln rfl ?_
                            refine w_gi gm rfl (by decide) rfl (sk25.1.2.2.2.2.2.1) ?_
                            refine w_iast gha rfl (by decide) (by show (0 : Int) ≤ (88 + (12 * ((rk9 : Nat) : Int))) + ((T (rv_x T (rv_x T q))).2.2.1); omega) (by show (88 + (12 * ((rk9 : Nat) : Int))) + ((T (rv_x T (rv_x T q))).2.2.1) < ((221 : Nat) : Int); omega) ?_
                            have s28 := sk25.hbid (j := ((88 + (12 * ((rk9 : Nat) : Int))) + ((T (rv_x T (rv_x T q))).2.2.1)).toNat) (k := ((rk9 : Nat) : Int).toNat) (i := ((T (rv_x T (rv_x T q))).2.2.1).toNat) (v := (T (rv_x T (rv_x T (rv_x T q)))).2.2.1) hB.1 (by omega) (by omega) (by omega) (by omega)
                            refine w_aln rfl ?_
                            refine w_dupr ?_
                            refine w_gi gm rfl (by decide) rfl (s28.1.2.2.1.trans (rfl)) ?_
                            refine w_ic ?_
                            refine w_add ⟨by show (-2147483648 : Int) ≤ (PL 5) + 1; omega, by show (PL 5) + 1 < (2147483648 : Int); omega⟩ ?_
                            refine w_pi gm rfl (by decide) rfl (fun q => by cases q) ?_
                            have s29 := s28.sbids (v := (PL 5) + 1) hB.1
                            refine w_ic ?_
                            refine w_iret (fun _ => Or.inr rfl) ?_
                            exact w_iret (fun _ => Or.inr rfl) (hvk25 (Nat.le_trans (Nat.le_trans (Nat.le_trans (Nat.le_refl q) (rv_y_ge hB hqn)) (rv_y_ge hB (rv_y_le hB hqn))) (rv_y_ge hB (rv_y_le hB (rv_y_le hB hqn)))) (rv_y_le hB (rv_y_le hB (rv_y_le hB hqn))) ⟨by rw [show (rv_up PL 5 ((PL 5) + 1)) 4 = PL 4 from (rv_up_n (by decide))]; omega, by rw [show (rv_up PL 5 ((PL 5) + 1)) 4 = PL 4 from (rv_up_n (by decide))]; omega, by rw [show (rv_up PL 5 ((PL 5) + 1)) 5 = (PL 5) + 1 from rv_up_s]; omega, by rw [show (rv_up PL 5 ((PL 5) + 1)) 5 = (PL 5) + 1 from rv_up_s]; omega⟩ _ _ _ (rv_R.bb (show (rv_up PL 5 ((PL 5) + 1)) 4 = PL 4 from (rv_up_n (by decide))).symm s29))
                          · exfalso; omega
                      · skip
                        refine w_aln rfl ?_
                        refine w_ic ?_
                        have h31 := hvk9.2 (by omega)
                        clear hvk9
                        have h32 := h31.1 (by omega)
                        clear h31
                        have h33 := h32.1 (by omega)
                        clear h32
                        have h34 := h33.1 (by omega)
                        clear h33
                        have h35 := h34.2 (by omega)
                        clear h34
                        refine w_cv (st := []) rfl gm rfl (Nat.le_of_ble_eq_true rfl) (fun kk h => h) (r_X12_bad2 (d := d + 3) hB s11 (fun MF30 F30 => ?_))
                        refine w_iret (fun _ => Or.inl rfl) ?_
                        exact w_iret (fun _ => Or.inl rfl) (h35 _ F30)
                    · skip
                      refine w_aln rfl ?_
                      refine w_ic ?_
                      have h37 := hvk9.2 (by omega)
                      clear hvk9
                      have h38 := h37.1 (by omega)
                      clear h37
                      have h39 := h38.1 (by omega)
                      clear h38
                      have h40 := h39.2 (by omega)
                      clear h39
                      refine w_cv (st := []) rfl gm rfl (Nat.le_of_ble_eq_true rfl) (fun kk h => h) (r_X12_bad2 (d := d + 3) hB s11 (fun MF36 F36 => ?_))
                      refine w_iret (fun _ => Or.inl rfl) ?_
                      exact w_iret (fun _ => Or.inl rfl) (h40 _ F36)
                  · skip
                    refine w_aln rfl ?_
                    refine w_ic ?_
                    have h42 := hvk9.2 (by omega)
                    clear hvk9
                    have h43 := h42.2 (by omega)
                    clear h42
                    refine w_cv (st := []) rfl gm rfl (Nat.le_of_ble_eq_true rfl) (fun kk h => h) (r_X12_bad2 (d := d + 3) hB s11 (fun MF41 F41 => ?_))
                    refine w_iret (fun _ => Or.inl rfl) ?_
                    exact w_iret (fun _ => Or.inl rfl) (h43 _ F41)
                · exfalso; omega
              · skip
                refine w_isn ?_
                show wz _ _ _ _ [some (.inr (.inr (some m))), some (.inl (-1)), none] _ _ _ _ _
                refine w_iln rfl ?_
                refine w_ifge (fun c44 => ?_) (fun c44 => ?_)
                · exfalso; omega
                · skip
                  refine w_aln rfl ?_
                  refine w_ic ?_
                  have h46 := hvk9.1 (by omega)
                  clear hvk9
                  refine w_cv (st := []) rfl gm rfl (Nat.le_of_ble_eq_true rfl) (fun kk h => h) (r_X12_bad2 (d := d + 3) hB s5 (fun MF45 F45 => ?_))
                  refine w_iret (fun _ => Or.inl rfl) ?_
                  exact w_iret (fun _ => Or.inl rfl) (h46 _ F45)
            · exfalso; omega
          · skip
            have hvk7 := sp_nam.bad h6 ck7
            refine w_ifne (fun c47 => ?_) (fun c47 => ?_)
            · exfalso; omega
            · skip
              refine w_aln rfl ?_
              refine w_ic ?_
              refine w_cv (st := []) rfl gm rfl (Nat.le_of_ble_eq_true rfl) (fun kk h => h) (r_X12_bad2 (d := d + 3) hB s5 (fun MF48 F48 => ?_))
              refine w_iret (fun _ => Or.inl rfl) ?_
              exact w_iret (fun _ => Or.inl rfl) (hvk7 _ F48)
        · skip
          refine w_aln rfl ?_
          refine w_ic ?_
          have h50 := h.1 (by omega)
          clear h
          refine w_cv (st := []) rfl gm rfl (Nat.le_of_ble_eq_true rfl) (fun kk h => h) (r_X12_bad2 (d := d + 3) hB hS (fun MF49 F49 => ?_))
          refine w_iret (fun _ => Or.inl rfl) ?_
          exact w_iret (fun _ => Or.inl rfl) (h50 _ F49)
    · exfalso; omega
  · exfalso; omega
set_option maxHeartbeats 4000000 in
theorem r_rR_3 {G : mj_G} {M0 M : mj_M} {B : Nat → Int} {n lim m bt ha hd ns rs sx : Nat} {T : Nat → Nat × Nat × Int × List Int × Nat} {PL WA OA : Nat → Int} {TO BI : Nat → Nat → Int} {nm : Nat → List Int} {g z r : Int} {Q : mj_P} {d q : Nat} (hB : rv_BT G M0 B n lim m bt ha hd ns rs sx T) (hS : rv_R M0 n lim m bt ha hd ns rs sx (T q) PL WA OA TO BI nm (PL 4) g z r M) (hqn : q ≤ n) (hb : rv_pb PL) (hk1 : (T q).1 = 1) (hj : rv_rs.getD 3 [] = (T q).2.2.2.1) (h : sp_need T PL WA OA TO BI nm q (fun f a => ∀ M', rv_FR M0 m sx ha f a M' → Q (some (.inl 0)) G M') (fun PL WA OA TO BI nm q' => q ≤ q' → q' ≤ n → rv_pb PL → ∀ g z M', rv_R M0 n lim m bt ha hd ns rs sx (T (rv_x T q')) PL WA OA TO BI nm (PL 4) g z r M' → Q (some (.inl 1)) G M')) : mj_R mj_tab (d + 6) 237 [.inr (.inr (some m))] G M Q := by
  obtain ⟨⟨gm, gbt, gha, ghd, gns, grs, r1, r7, r23, r9, r10, rb, rr, n1, n2, gsx, r6⟩, hT⟩ := id hB
  obtain ⟨b1, b2, b3, b4⟩ := id hb
  unfold sp_need at h
  refine ⟨Nat.le_of_ble_eq_true rfl, ?_⟩
  show wz (d + 5) mt_X12_row.2.2.2.2.1 Q mt_X12_row.2.2.2.2.1 [some (.inr (.inr (some m))), none] [] G M _ _
  refine w_aln rfl ?_
  refine w_l2 ?_
  refine w_cv (st := []) rfl gm rfl (Nat.le_of_ble_eq_true rfl) (fun kk h => h) (r_isWord0 (d := d + 4) (i := 0) hB hS hqn (by decide) (by decide +kernel) (fun e => absurd (rv_rs_i 0 (by decide) 3 (by decide) (e.2.trans hj.symm)) (by decide)) ?_)
  refine w_ifeq (fun c1 => ?_) (fun c1 => ?_)
  · skip
    refine w_aln rfl ?_
    refine w_l2 ?_
    refine w_cv (st := []) rfl gm rfl (Nat.le_of_ble_eq_true rfl) (fun kk h => h) (r_isWord0 (d := d + 4) (i := 1) hB hS hqn (by decide) (by decide +kernel) (fun e => absurd (rv_rs_i 1 (by decide) 3 (by decide) (e.2.trans hj.symm)) (by decide)) ?_)
    refine w_ifeq (fun c2 => ?_) (fun c2 => ?_)
    · skip
      refine w_aln rfl ?_
      refine w_l2 ?_
      refine w_cv (st := []) rfl gm rfl (Nat.le_of_ble_eq_true rfl) (fun kk h => h) (r_isWord0 (d := d + 4) (i := 2) hB hS hqn (by decide) (by decide +kernel) (fun e => absurd (rv_rs_i 2 (by decide) 3 (by decide) (e.2.trans hj.symm)) (by decide)) ?_)
      refine w_ifeq (fun c3 => ?_) (fun c3 => ?_)
      · skip
        refine w_aln rfl ?_
        refine w_l2 ?_
        refine w_cv (st := []) rfl gm rfl (Nat.le_of_ble_eq_true rfl) (fun kk h => h) (r_isWord1 (d := d + 4) (i := 3) hB hS hqn (by decide) (by decide +kernel) ⟨hk1, hj⟩ ?_)
        refine w_ifeq (fun c4 => ?_) (fun c4 => ?_)
        · exfalso; omega
        · skip
          refine w_aln rfl ?_
          refine w_ic ?_
          refine w_ic ?_
          refine w_sp ?_
          refine w_cv (st := []) rfl gm rfl (Nat.le_of_ble_eq_true rfl) (fun kk h => h) ⟨Nat.le_of_ble_eq_true rfl, ?_⟩
          show wz (d + 4) mt_X12_readOf.2.2.2.2.1 _ mt_X12_readOf.2.2.2.2.1 [some (.inr (.inr (some m))), some (.inl 0), some (.inl 4), some (.inl 999), none] [] _ _ _ _
          refine w_aln rfl ?_
          refine w_cv (st := []) rfl gm rfl (Nat.le_of_ble_eq_true rfl) (fun kk h => h) (r_nxtT (d := d + 2) hB hS (by omega) (by omega) hqn (fun Ms5 s5 => ?_))
          refine w_aln rfl ?_
          refine w_cv (st := []) rfl gm rfl (Nat.le_of_ble_eq_true rfl) (fun kk h => h) (r_X12_isName2 (d := d + 3) hB s5 (rv_y_le hB hqn) (fun bk6 ck6 => ?_) (fun ck6 => ?_))
          · skip
            have hvk6 := (h.1 bk6).1 ck6
            refine w_ifne (fun c7 => ?_) (fun c7 => ?_)
            · skip
              refine w_aln rfl ?_
              refine w_bp ?_
              refine w_aln rfl ?_
              refine w_gr gm rfl (by decide) rfl ((congrFun (congrFun s5.2.2.2.2.2.1 m) 7).trans r7) ?_
              refine w_ic ?_
              refine w_iald (v := PL 4) gha rfl (by show (0 : Int) ≤ 0; omega) (by show 0 < ((221 : Nat) : Int); omega) (s5.2.2.1.1.trans (rfl)) ?_
              refine w_cv (st := []) rfl gm rfl (Nat.le_of_ble_eq_true rfl) (fun kk h => h) (r_X12_find2 (d := d + 3) hB s5 hb (by omega) (by omega) (rv_y_wo hB (rv_y_le hB hqn) (by omega)) (sp_find.mono hvk6 (fun rk8 lk8 ck8 mk8 hvk8 => ?_) (fun mk8 hvk8 => ?_)))
              · skip
                refine w_is ?_
                show wz _ _ _ _ [some (.inr (.inr (some m))), some (.inl 0), some (.inl 4), some (.inl 999), some (.inl ((rk8 : Nat) : Int))] _ _ _ _ _
                refine w_il rfl ?_
                refine w_iflt (fun c9 => ?_) (fun c9 => ?_)
                · exfalso; omega
                · skip
                  refine w_aln rfl ?_
                  refine w_gr gm rfl (by decide) rfl ((congrFun (congrFun s5.2.2.2.2.2.1 m) 23).trans r23) ?_
                  refine w_iln rfl ?_
                  have b10 : rv_bt (Ms5.1 hd ((0 : Int).toNat)) ((rk8 : Nat) : Int) = rv_bt (OA (((rk8 : Nat) : Int).toNat)) 4 := s5.2.2.2.1 0 rk8 (by decide) (by omega)
                  refine w_iald (v := (Ms5.1 hd ((0 : Int).toNat))) ghd rfl (by show (0 : Int) ≤ 0; omega) (by show 0 < ((4 : Nat) : Int); omega) (rfl) ?_
                  refine w_il rfl ?_
                  refine w_cs (st := []) rfl (Nat.le_of_ble_eq_true rfl) (fun kk h => h) ⟨Nat.le_of_ble_eq_true rfl, ?_⟩
                  show wz (d + 3) mt_X12_bitOf.2.2.2.2.1 _ mt_X12_bitOf.2.2.2.2.1 [some (.inl (Ms5.1 hd ((0 : Int).toNat))), some (.inl ((rk8 : Nat) : Int))] [] _ _ _ _
                  refine w_iln rfl ?_
                  refine w_iln rfl ?_
                  refine w_shr ?_
                  intro z11 hz11 ez11
                  refine w_ic ?_
                  refine w_and ?_
                  intro z12 hz12 ez12
                  obtain rfl : z12 = rv_bt (Ms5.1 hd ((0 : Int).toNat)) ((rk8 : Nat) : Int) := by rw [ez12, ez11]; rfl
                  have hz12 := rv_bt_01 (Ms5.1 hd ((0 : Int).toNat)) ((rk8 : Nat) : Int)
                  refine w_ic ?_
                  refine w_cmne (fun c13 => ?_) (fun c13 => ?_)
                  · skip
                    refine w_ic ?_
                    refine w_iret (fun _ => Or.inl rfl) ?_
                    refine w_ifeq (fun c14 => ?_) (fun c14 => ?_)
                    · skip
                      refine w_aln rfl ?_
                      refine w_gr gm rfl (by decide) rfl ((congrFun (congrFun s5.2.2.2.2.2.1 m) 23).trans r23) ?_
                      refine w_iln rfl ?_
                      refine w_dup2 ?_
                      have b15 : rv_bt (Ms5.1 hd ((0 : Int).toNat)) ((rk8 : Nat) : Int) = rv_bt (OA (((rk8 : Nat) : Int).toNat)) 4 := s5.2.2.2.1 0 rk8 (by decide) (by omega)
                      refine w_iald (v := (Ms5.1 hd ((0 : Int).toNat))) ghd rfl (by show (0 : Int) ≤ 0; omega) (by show 0 < ((4 : Nat) : Int); omega) (rfl) ?_
                      refine w_ic ?_
                      refine w_il rfl ?_
                      refine w_shl ?_
                      intro z16 hz16 ez16
                      refine w_or ?_
                      intro z17 hz17 ez17
                      obtain rfl : z17 = rv_bs (Ms5.1 hd ((0 : Int).toNat)) ((rk8 : Nat) : Int) := by rw [ez17, ez16]; rfl
                      refine w_iast ghd rfl (by decide) (by show (0 : Int) ≤ 0; omega) (by show 0 < ((4 : Nat) : Int); omega) ?_
                      have s18 := s5.shad (s := 0) (k := rk8) hB.1 (by decide) (by omega)
                      refine w_aln rfl ?_
                      refine w_il rfl ?_
                      refine w_pi gm rfl (by decide) rfl (fun q => by cases q) ?_
                      have s19 := s18.sof (v := ((rk8 : Nat) : Int)) hB.1
                      refine w_aln rfl ?_
                      refine w_cv (st := []) rfl gm rfl (Nat.le_of_ble_eq_true rfl) (fun kk h => h) (r_nxtT (d := d + 2) hB s19 (by omega) (by omega) (rv_y_le hB hqn) (fun Ms20 s20 => ?_))
                      refine w_aln rfl ?_
                      refine w_ic ?_
                      refine w_iln rfl ?_
                      have h21 := hvk8.2 (by omega)
                      clear hvk8
                      have h22 := h21.1 (by omega)
                      clear h21
                      refine w_cv (st := []) rfl gm rfl (Nat.le_of_ble_eq_true rfl) (fun kk h => h) (r_X12_takes2 (d := d + 1) hB s20 (rv_y_le hB (rv_y_le hB hqn)) (sp_num.mono h22 (fun fk23 ak23 hfk23 Mk23 Fk23 => ?_) (fun bk23 ck23 ek23 hvk23 Mk23 sk23 => ?_)))
                      · skip
                        refine w_ifne (fun c24 => ?_) (fun c24 => ?_)
                        · exfalso; omega
                        · skip
                          refine w_ic ?_
                          refine w_iret (fun _ => Or.inl rfl) ?_
                          exact w_iret (fun _ => Or.inl rfl) (hfk23 _ Fk23)
                      · skip
                        refine w_ifne (fun c25 => ?_) (fun c25 => ?_)
                        · skip
                          refine w_aln rfl ?_
                          refine w_gr gm rfl (by decide) rfl ((congrFun (congrFun sk23.2.2.2.2.2.1 m) 7).trans r7) ?_
                          refine w_ic ?_
                          refine w_bp ?_
                          refine w_il rfl ?_
                          refine w_mul ⟨by show (-2147483648 : Int) ≤ 9 * ((rk8 : Nat) : Int); omega, by show 9 * ((rk8 : Nat) : Int) < (2147483648 : Int); omega⟩ ?_
                          refine w_add ⟨by show (-2147483648 : Int) ≤ 4 + (9 * ((rk8 : Nat) : Int)); omega, by show 4 + (9 * ((rk8 : Nat) : Int)) < (2147483648 : Int); omega⟩ ?_
                          refine w_iln rfl ?_
                          refine w_add ⟨by show (-2147483648 : Int) ≤ (4 + (9 * ((rk8 : Nat) : Int))) + 4; omega, by show (4 + (9 * ((rk8 : Nat) : Int))) + 4 < (2147483648 : Int); omega⟩ ?_
                          refine w_aln rfl ?_
                          refine w_gi gm rfl (by decide) rfl (sk23.1.2.2.2.2.2.1) ?_
                          refine w_iast gha rfl (by decide) (by show (0 : Int) ≤ (4 + (9 * ((rk8 : Nat) : Int))) + 4; omega) (by show (4 + (9 * ((rk8 : Nat) : Int))) + 4 < ((221 : Nat) : Int); omega) ?_
                          have s26 := sk23.htold (j := ((4 + (9 * ((rk8 : Nat) : Int))) + 4).toNat) (k := ((rk8 : Nat) : Int).toNat) (i := 4) (v := (T (rv_x T (rv_x T q))).2.2.1) hB.1 (by omega) (by omega) (by omega)
                          refine w_ic ?_
                          refine w_iret (fun _ => Or.inr rfl) ?_
                          exact w_iret (fun _ => Or.inr rfl) (hvk23 (Nat.le_trans (Nat.le_trans (Nat.le_refl q) (rv_y_ge hB hqn)) (rv_y_ge hB (rv_y_le hB hqn))) (rv_y_le hB (rv_y_le hB hqn)) hb _ _ _ (rv_R.bb rfl s26))
                        · exfalso; omega
                    · exfalso; omega
                  · skip
                    refine w_ic ?_
                    refine w_goto ?_
                    refine w_iret (fun _ => Or.inr rfl) ?_
                    refine w_ifeq (fun c27 => ?_) (fun c27 => ?_)
                    · exfalso; omega
                    · skip
                      refine w_aln rfl ?_
                      refine w_ic ?_
                      have h29 := hvk8.2 (by omega)
                      clear hvk8
                      have h30 := h29.2 (by omega)
                      clear h29
                      refine w_cv (st := []) rfl gm rfl (Nat.le_of_ble_eq_true rfl) (fun kk h => h) (r_X12_bad2 (d := d + 3) hB s5 (fun MF28 F28 => ?_))
                      refine w_iret (fun _ => Or.inl rfl) ?_
                      exact w_iret (fun _ => Or.inl rfl) (h30 _ F28)
              · skip
                refine w_is ?_
                show wz _ _ _ _ [some (.inr (.inr (some m))), some (.inl 0), some (.inl 4), some (.inl 999), some (.inl (-1))] _ _ _ _ _
                refine w_il rfl ?_
                refine w_iflt (fun c31 => ?_) (fun c31 => ?_)
                · skip
                  refine w_aln rfl ?_
                  refine w_ic ?_
                  have h33 := hvk8.1 (by omega)
                  clear hvk8
                  refine w_cv (st := []) rfl gm rfl (Nat.le_of_ble_eq_true rfl) (fun kk h => h) (r_X12_bad2 (d := d + 3) hB s5 (fun MF32 F32 => ?_))
                  refine w_iret (fun _ => Or.inl rfl) ?_
                  exact w_iret (fun _ => Or.inl rfl) (h33 _ F32)
                · exfalso; omega
            · exfalso; omega
          · skip
            have hvk6 := sp_nam.bad h ck6
            refine w_ifne (fun c34 => ?_) (fun c34 => ?_)
            · exfalso; omega
            · skip
              refine w_aln rfl ?_
              refine w_ic ?_
              refine w_cv (st := []) rfl gm rfl (Nat.le_of_ble_eq_true rfl) (fun kk h => h) (r_X12_bad2 (d := d + 3) hB s5 (fun MF35 F35 => ?_))
              refine w_iret (fun _ => Or.inl rfl) ?_
              exact w_iret (fun _ => Or.inl rfl) (hvk6 _ F35)
      · exfalso; omega
    · exfalso; omega
  · exfalso; omega
set_option maxHeartbeats 4000000 in
theorem r_rR_4 {G : mj_G} {M0 M : mj_M} {B : Nat → Int} {n lim m bt ha hd ns rs sx : Nat} {T : Nat → Nat × Nat × Int × List Int × Nat} {PL WA OA : Nat → Int} {TO BI : Nat → Nat → Int} {nm : Nat → List Int} {g z r : Int} {Q : mj_P} {d q : Nat} (hB : rv_BT G M0 B n lim m bt ha hd ns rs sx T) (hS : rv_R M0 n lim m bt ha hd ns rs sx (T q) PL WA OA TO BI nm (PL 4) g z r M) (hqn : q ≤ n) (hb : rv_pb PL) (hk1 : (T q).1 = 1) (hj : rv_rs.getD 4 [] = (T q).2.2.2.1) (h : sp_mill T PL WA OA TO BI nm q (fun f a => ∀ M', rv_FR M0 m sx ha f a M' → Q (some (.inl 0)) G M') (fun PL WA OA TO BI nm q' => q ≤ q' → q' ≤ n → rv_pb PL → ∀ g z M', rv_R M0 n lim m bt ha hd ns rs sx (T (rv_x T q')) PL WA OA TO BI nm (PL 4) g z r M' → Q (some (.inl 1)) G M')) : mj_R mj_tab (d + 6) 237 [.inr (.inr (some m))] G M Q := by
  obtain ⟨⟨gm, gbt, gha, ghd, gns, grs, r1, r7, r23, r9, r10, rb, rr, n1, n2, gsx, r6⟩, hT⟩ := id hB
  obtain ⟨b1, b2, b3, b4⟩ := id hb
  unfold sp_mill at h
  refine ⟨Nat.le_of_ble_eq_true rfl, ?_⟩
  show wz (d + 5) mt_X12_row.2.2.2.2.1 Q mt_X12_row.2.2.2.2.1 [some (.inr (.inr (some m))), none] [] G M _ _
  refine w_aln rfl ?_
  refine w_l2 ?_
  refine w_cv (st := []) rfl gm rfl (Nat.le_of_ble_eq_true rfl) (fun kk h => h) (r_isWord0 (d := d + 4) (i := 0) hB hS hqn (by decide) (by decide +kernel) (fun e => absurd (rv_rs_i 0 (by decide) 4 (by decide) (e.2.trans hj.symm)) (by decide)) ?_)
  refine w_ifeq (fun c1 => ?_) (fun c1 => ?_)
  · skip
    refine w_aln rfl ?_
    refine w_l2 ?_
    refine w_cv (st := []) rfl gm rfl (Nat.le_of_ble_eq_true rfl) (fun kk h => h) (r_isWord0 (d := d + 4) (i := 1) hB hS hqn (by decide) (by decide +kernel) (fun e => absurd (rv_rs_i 1 (by decide) 4 (by decide) (e.2.trans hj.symm)) (by decide)) ?_)
    refine w_ifeq (fun c2 => ?_) (fun c2 => ?_)
    · skip
      refine w_aln rfl ?_
      refine w_l2 ?_
      refine w_cv (st := []) rfl gm rfl (Nat.le_of_ble_eq_true rfl) (fun kk h => h) (r_isWord0 (d := d + 4) (i := 2) hB hS hqn (by decide) (by decide +kernel) (fun e => absurd (rv_rs_i 2 (by decide) 4 (by decide) (e.2.trans hj.symm)) (by decide)) ?_)
      refine w_ifeq (fun c3 => ?_) (fun c3 => ?_)
      · skip
        refine w_aln rfl ?_
        refine w_l2 ?_
        refine w_cv (st := []) rfl gm rfl (Nat.le_of_ble_eq_true rfl) (fun kk h => h) (r_isWord0 (d := d + 4) (i := 3) hB hS hqn (by decide) (by decide +kernel) (fun e => absurd (rv_rs_i 3 (by decide) 4 (by decide) (e.2.trans hj.symm)) (by decide)) ?_)
        refine w_ifeq (fun c4 => ?_) (fun c4 => ?_)
        · skip
          refine w_aln rfl ?_
          refine w_l2 ?_
          refine w_cv (st := []) rfl gm rfl (Nat.le_of_ble_eq_true rfl) (fun kk h => h) (r_isWord1 (d := d + 4) (i := 4) hB hS hqn (by decide) (by decide +kernel) ⟨hk1, hj⟩ ?_)
          refine w_ifeq (fun c5 => ?_) (fun c5 => ?_)
          · exfalso; omega
          · skip
            refine w_aln rfl ?_
            refine w_ic ?_
            refine w_ic ?_
            refine w_bp ?_
            refine w_cv (st := []) rfl gm rfl (Nat.le_of_ble_eq_true rfl) (fun kk h => h) ⟨Nat.le_of_ble_eq_true rfl, ?_⟩
            show wz (d + 4) mt_X12_readOf.2.2.2.2.1 _ mt_X12_readOf.2.2.2.2.1 [some (.inr (.inr (some m))), some (.inl 1), some (.inl 5), some (.inl 99), none] [] _ _ _ _
            refine w_aln rfl ?_
            refine w_cv (st := []) rfl gm rfl (Nat.le_of_ble_eq_true rfl) (fun kk h => h) (r_nxtT (d := d + 2) hB hS (by omega) (by omega) hqn (fun Ms6 s6 => ?_))
            refine w_aln rfl ?_
            refine w_cv (st := []) rfl gm rfl (Nat.le_of_ble_eq_true rfl) (fun kk h => h) (r_X12_isName2 (d := d + 3) hB s6 (rv_y_le hB hqn) (fun bk7 ck7 => ?_) (fun ck7 => ?_))
            · skip
              have hvk7 := (h.1 bk7).1 ck7
              refine w_ifne (fun c8 => ?_) (fun c8 => ?_)
              · skip
                refine w_aln rfl ?_
                refine w_bp ?_
                refine w_aln rfl ?_
                refine w_gr gm rfl (by decide) rfl ((congrFun (congrFun s6.2.2.2.2.2.1 m) 7).trans r7) ?_
                refine w_ic ?_
                refine w_iald (v := PL 4) gha rfl (by show (0 : Int) ≤ 0; omega) (by show 0 < ((221 : Nat) : Int); omega) (s6.2.2.1.1.trans (rfl)) ?_
                refine w_cv (st := []) rfl gm rfl (Nat.le_of_ble_eq_true rfl) (fun kk h => h) (r_X12_find2 (d := d + 3) hB s6 hb (by omega) (by omega) (rv_y_wo hB (rv_y_le hB hqn) (by omega)) (sp_find.mono hvk7 (fun rk9 lk9 ck9 mk9 hvk9 => ?_) (fun mk9 hvk9 => ?_)))
                · skip
                  refine w_is ?_
                  show wz _ _ _ _ [some (.inr (.inr (some m))), some (.inl 1), some (.inl 5), some (.inl 99), some (.inl ((rk9 : Nat) : Int))] _ _ _ _ _
                  refine w_il rfl ?_
                  refine w_iflt (fun c10 => ?_) (fun c10 => ?_)
                  · exfalso; omega
                  · skip
                    refine w_aln rfl ?_
                    refine w_gr gm rfl (by decide) rfl ((congrFun (congrFun s6.2.2.2.2.2.1 m) 23).trans r23) ?_
                    refine w_iln rfl ?_
                    have b11 : rv_bt (Ms6.1 hd ((1 : Int).toNat)) ((rk9 : Nat) : Int) = rv_bt (OA (((rk9 : Nat) : Int).toNat)) 5 := s6.2.2.2.1 1 rk9 (by decide) (by omega)
                    refine w_iald (v := (Ms6.1 hd ((1 : Int).toNat))) ghd rfl (by show (0 : Int) ≤ 1; omega) (by show 1 < ((4 : Nat) : Int); omega) (rfl) ?_
                    refine w_il rfl ?_
                    refine w_cs (st := []) rfl (Nat.le_of_ble_eq_true rfl) (fun kk h => h) ⟨Nat.le_of_ble_eq_true rfl, ?_⟩
                    show wz (d + 3) mt_X12_bitOf.2.2.2.2.1 _ mt_X12_bitOf.2.2.2.2.1 [some (.inl (Ms6.1 hd ((1 : Int).toNat))), some (.inl ((rk9 : Nat) : Int))] [] _ _ _ _
                    refine w_iln rfl ?_
                    refine w_iln rfl ?_
                    refine w_shr ?_
                    intro z12 hz12 ez12
                    refine w_ic ?_
                    refine w_and ?_
                    intro z13 hz13 ez13
                    obtain rfl : z13 = rv_bt (Ms6.1 hd ((1 : Int).toNat)) ((rk9 : Nat) : Int) := by rw [ez13, ez12]; rfl
                    have hz13 := rv_bt_01 (Ms6.1 hd ((1 : Int).toNat)) ((rk9 : Nat) : Int)
                    refine w_ic ?_
                    refine w_cmne (fun c14 => ?_) (fun c14 => ?_)
                    · skip
                      refine w_ic ?_
                      refine w_iret (fun _ => Or.inl rfl) ?_
                      refine w_ifeq (fun c15 => ?_) (fun c15 => ?_)
                      · skip
                        refine w_aln rfl ?_
                        refine w_gr gm rfl (by decide) rfl ((congrFun (congrFun s6.2.2.2.2.2.1 m) 23).trans r23) ?_
                        refine w_iln rfl ?_
                        refine w_dup2 ?_
                        have b16 : rv_bt (Ms6.1 hd ((1 : Int).toNat)) ((rk9 : Nat) : Int) = rv_bt (OA (((rk9 : Nat) : Int).toNat)) 5 := s6.2.2.2.1 1 rk9 (by decide) (by omega)
                        refine w_iald (v := (Ms6.1 hd ((1 : Int).toNat))) ghd rfl (by show (0 : Int) ≤ 1; omega) (by show 1 < ((4 : Nat) : Int); omega) (rfl) ?_
                        refine w_ic ?_
                        refine w_il rfl ?_
                        refine w_shl ?_
                        intro z17 hz17 ez17
                        refine w_or ?_
                        intro z18 hz18 ez18
                        obtain rfl : z18 = rv_bs (Ms6.1 hd ((1 : Int).toNat)) ((rk9 : Nat) : Int) := by rw [ez18, ez17]; rfl
                        refine w_iast ghd rfl (by decide) (by show (0 : Int) ≤ 1; omega) (by show 1 < ((4 : Nat) : Int); omega) ?_
                        have s19 := s6.shad (s := 1) (k := rk9) hB.1 (by decide) (by omega)
                        refine w_aln rfl ?_
                        refine w_il rfl ?_
                        refine w_pi gm rfl (by decide) rfl (fun q => by cases q) ?_
                        have s20 := s19.sof (v := ((rk9 : Nat) : Int)) hB.1
                        refine w_aln rfl ?_
                        refine w_cv (st := []) rfl gm rfl (Nat.le_of_ble_eq_true rfl) (fun kk h => h) (r_nxtT (d := d + 2) hB s20 (by omega) (by omega) (rv_y_le hB hqn) (fun Ms21 s21 => ?_))
                        refine w_aln rfl ?_
                        refine w_ic ?_
                        refine w_iln rfl ?_
                        have h22 := hvk9.2 (by omega)
                        clear hvk9
                        have h23 := h22.1 (by omega)
                        clear h22
                        refine w_cv (st := []) rfl gm rfl (Nat.le_of_ble_eq_true rfl) (fun kk h => h) (r_X12_takes2 (d := d + 1) hB s21 (rv_y_le hB (rv_y_le hB hqn)) (sp_num.mono h23 (fun fk24 ak24 hfk24 Mk24 Fk24 => ?_) (fun bk24 ck24 ek24 hvk24 Mk24 sk24 => ?_)))
                        · skip
                          refine w_ifne (fun c25 => ?_) (fun c25 => ?_)
                          · exfalso; omega
                          · skip
                            refine w_ic ?_
                            refine w_iret (fun _ => Or.inl rfl) ?_
                            exact w_iret (fun _ => Or.inl rfl) (hfk24 _ Fk24)
                        · skip
                          refine w_ifne (fun c26 => ?_) (fun c26 => ?_)
                          · skip
                            refine w_aln rfl ?_
                            refine w_gr gm rfl (by decide) rfl ((congrFun (congrFun sk24.2.2.2.2.2.1 m) 7).trans r7) ?_
                            refine w_ic ?_
                            refine w_bp ?_
                            refine w_il rfl ?_
                            refine w_mul ⟨by show (-2147483648 : Int) ≤ 9 * ((rk9 : Nat) : Int); omega, by show 9 * ((rk9 : Nat) : Int) < (2147483648 : Int); omega⟩ ?_
                            refine w_add ⟨by show (-2147483648 : Int) ≤ 4 + (9 * ((rk9 : Nat) : Int)); omega, by show 4 + (9 * ((rk9 : Nat) : Int)) < (2147483648 : Int); omega⟩ ?_
                            refine w_iln rfl ?_
                            refine w_add ⟨by show (-2147483648 : Int) ≤ (4 + (9 * ((rk9 : Nat) : Int))) + 5; omega, by show (4 + (9 * ((rk9 : Nat) : Int))) + 5 < (2147483648 : Int); omega⟩ ?_
                            refine w_aln rfl ?_
                            refine w_gi gm rfl (by decide) rfl (sk24.1.2.2.2.2.2.1) ?_
                            refine w_iast gha rfl (by decide) (by show (0 : Int) ≤ (4 + (9 * ((rk9 : Nat) : Int))) + 5; omega) (by show (4 + (9 * ((rk9 : Nat) : Int))) + 5 < ((221 : Nat) : Int); omega) ?_
                            have s27 := sk24.htold (j := ((4 + (9 * ((rk9 : Nat) : Int))) + 5).toNat) (k := ((rk9 : Nat) : Int).toNat) (i := 5) (v := (T (rv_x T (rv_x T q))).2.2.1) hB.1 (by omega) (by omega) (by omega)
                            refine w_ic ?_
                            refine w_iret (fun _ => Or.inr rfl) ?_
                            exact w_iret (fun _ => Or.inr rfl) (hvk24 (Nat.le_trans (Nat.le_trans (Nat.le_refl q) (rv_y_ge hB hqn)) (rv_y_ge hB (rv_y_le hB hqn))) (rv_y_le hB (rv_y_le hB hqn)) hb _ _ _ (rv_R.bb rfl s27))
                          · exfalso; omega
                      · exfalso; omega
                    · skip
                      refine w_ic ?_
                      refine w_goto ?_
                      refine w_iret (fun _ => Or.inr rfl) ?_
                      refine w_ifeq (fun c28 => ?_) (fun c28 => ?_)
                      · exfalso; omega
                      · skip
                        refine w_aln rfl ?_
                        refine w_ic ?_
                        have h30 := hvk9.2 (by omega)
                        clear hvk9
                        have h31 := h30.2 (by omega)
                        clear h30
                        refine w_cv (st := []) rfl gm rfl (Nat.le_of_ble_eq_true rfl) (fun kk h => h) (r_X12_bad2 (d := d + 3) hB s6 (fun MF29 F29 => ?_))
                        refine w_iret (fun _ => Or.inl rfl) ?_
                        exact w_iret (fun _ => Or.inl rfl) (h31 _ F29)
                · skip
                  refine w_is ?_
                  show wz _ _ _ _ [some (.inr (.inr (some m))), some (.inl 1), some (.inl 5), some (.inl 99), some (.inl (-1))] _ _ _ _ _
                  refine w_il rfl ?_
                  refine w_iflt (fun c32 => ?_) (fun c32 => ?_)
                  · skip
                    refine w_aln rfl ?_
                    refine w_ic ?_
                    have h34 := hvk9.1 (by omega)
                    clear hvk9
                    refine w_cv (st := []) rfl gm rfl (Nat.le_of_ble_eq_true rfl) (fun kk h => h) (r_X12_bad2 (d := d + 3) hB s6 (fun MF33 F33 => ?_))
                    refine w_iret (fun _ => Or.inl rfl) ?_
                    exact w_iret (fun _ => Or.inl rfl) (h34 _ F33)
                  · exfalso; omega
              · exfalso; omega
            · skip
              have hvk7 := sp_nam.bad h ck7
              refine w_ifne (fun c35 => ?_) (fun c35 => ?_)
              · exfalso; omega
              · skip
                refine w_aln rfl ?_
                refine w_ic ?_
                refine w_cv (st := []) rfl gm rfl (Nat.le_of_ble_eq_true rfl) (fun kk h => h) (r_X12_bad2 (d := d + 3) hB s6 (fun MF36 F36 => ?_))
                refine w_iret (fun _ => Or.inl rfl) ?_
                exact w_iret (fun _ => Or.inl rfl) (hvk7 _ F36)
        · exfalso; omega
      · exfalso; omega
    · exfalso; omega
  · exfalso; omega
set_option maxHeartbeats 4000000 in
theorem r_rR_5 {G : mj_G} {M0 M : mj_M} {B : Nat → Int} {n lim m bt ha hd ns rs sx : Nat} {T : Nat → Nat × Nat × Int × List Int × Nat} {PL WA OA : Nat → Int} {TO BI : Nat → Nat → Int} {nm : Nat → List Int} {g z r : Int} {Q : mj_P} {d q : Nat} (hB : rv_BT G M0 B n lim m bt ha hd ns rs sx T) (hS : rv_R M0 n lim m bt ha hd ns rs sx (T q) PL WA OA TO BI nm (PL 4) g z r M) (hqn : q ≤ n) (hb : rv_pb PL) (hk1 : (T q).1 = 1) (hj : rv_rs.getD 5 [] = (T q).2.2.2.1) (h : sp_bridge T PL WA OA TO BI nm q (fun f a => ∀ M', rv_FR M0 m sx ha f a M' → Q (some (.inl 0)) G M') (fun PL WA OA TO BI nm q' => q ≤ q' → q' ≤ n → rv_pb PL → ∀ g z M', rv_R M0 n lim m bt ha hd ns rs sx (T (rv_x T q')) PL WA OA TO BI nm (PL 4) g z r M' → Q (some (.inl 1)) G M')) : mj_R mj_tab (d + 6) 237 [.inr (.inr (some m))] G M Q := by
  obtain ⟨⟨gm, gbt, gha, ghd, gns, grs, r1, r7, r23, r9, r10, rb, rr, n1, n2, gsx, r6⟩, hT⟩ := id hB
  obtain ⟨b1, b2, b3, b4⟩ := id hb
  unfold sp_bridge at h
  refine ⟨Nat.le_of_ble_eq_true rfl, ?_⟩
  show wz (d + 5) mt_X12_row.2.2.2.2.1 Q mt_X12_row.2.2.2.2.1 [some (.inr (.inr (some m))), none] [] G M _ _
  refine w_aln rfl ?_
  refine w_l2 ?_
  refine w_cv (st := []) rfl gm rfl (Nat.le_of_ble_eq_true rfl) (fun kk h => h) (r_isWord0 (d := d + 4) (i := 0) hB hS hqn (by decide) (by decide +kernel) (fun e => absurd (rv_rs_i 0 (by decide) 5 (by decide) (e.2.trans hj.symm)) (by decide)) ?_)
  refine w_ifeq (fun c1 => ?_) (fun c1 => ?_)
  · skip
    refine w_aln rfl ?_
    refine w_l2 ?_
    refine w_cv (st := []) rfl gm rfl (Nat.le_of_ble_eq_true rfl) (fun kk h => h) (r_isWord0 (d := d + 4) (i := 1) hB hS hqn (by decide) (by decide +kernel) (fun e => absurd (rv_rs_i 1 (by decide) 5 (by decide) (e.2.trans hj.symm)) (by decide)) ?_)
    refine w_ifeq (fun c2 => ?_) (fun c2 => ?_)
    · skip
      refine w_aln rfl ?_
      refine w_l2 ?_
      refine w_cv (st := []) rfl gm rfl (Nat.le_of_ble_eq_true rfl) (fun kk h => h) (r_isWord0 (d := d + 4) (i := 2) hB hS hqn (by decide) (by decide +kernel) (fun e => absurd (rv_rs_i 2 (by decide) 5 (by decide) (e.2.trans hj.symm)) (by decide)) ?_)
      refine w_ifeq (fun c3 => ?_) (fun c3 => ?_)
      · skip
        refine w_aln rfl ?_
        refine w_l2 ?_
        refine w_cv (st := []) rfl gm rfl (Nat.le_of_ble_eq_true rfl) (fun kk h => h) (r_isWord0 (d := d + 4) (i := 3) hB hS hqn (by decide) (by decide +kernel) (fun e => absurd (rv_rs_i 3 (by decide) 5 (by decide) (e.2.trans hj.symm)) (by decide)) ?_)
        refine w_ifeq (fun c4 => ?_) (fun c4 => ?_)
        · skip
          refine w_aln rfl ?_
          refine w_l2 ?_
          refine w_cv (st := []) rfl gm rfl (Nat.le_of_ble_eq_true rfl) (fun kk h => h) (r_isWord0 (d := d + 4) (i := 4) hB hS hqn (by decide) (by decide +kernel) (fun e => absurd (rv_rs_i 4 (by decide) 5 (by decide) (e.2.trans hj.symm)) (by decide)) ?_)
          refine w_ifeq (fun c5 => ?_) (fun c5 => ?_)
          · skip
            refine w_aln rfl ?_
            refine w_l2 ?_
            refine w_cv (st := []) rfl gm rfl (Nat.le_of_ble_eq_true rfl) (fun kk h => h) (r_isWord1 (d := d + 4) (i := 5) hB hS hqn (by decide) (by decide +kernel) ⟨hk1, hj⟩ ?_)
            refine w_ifeq (fun c6 => ?_) (fun c6 => ?_)
            · exfalso; omega
            · skip
              refine w_aln rfl ?_
              refine w_ic ?_
              refine w_bp ?_
              refine w_bp ?_
              refine w_cv (st := []) rfl gm rfl (Nat.le_of_ble_eq_true rfl) (fun kk h => h) ⟨Nat.le_of_ble_eq_true rfl, ?_⟩
              show wz (d + 4) mt_X12_readOf.2.2.2.2.1 _ mt_X12_readOf.2.2.2.2.1 [some (.inr (.inr (some m))), some (.inl 2), some (.inl 6), some (.inl 99), none] [] _ _ _ _
              refine w_aln rfl ?_
              refine w_cv (st := []) rfl gm rfl (Nat.le_of_ble_eq_true rfl) (fun kk h => h) (r_nxtT (d := d + 2) hB hS (by omega) (by omega) hqn (fun Ms7 s7 => ?_))
              refine w_aln rfl ?_
              refine w_cv (st := []) rfl gm rfl (Nat.le_of_ble_eq_true rfl) (fun kk h => h) (r_X12_isName2 (d := d + 3) hB s7 (rv_y_le hB hqn) (fun bk8 ck8 => ?_) (fun ck8 => ?_))
              · skip
                have hvk8 := (h.1 bk8).1 ck8
                refine w_ifne (fun c9 => ?_) (fun c9 => ?_)
                · skip
                  refine w_aln rfl ?_
                  refine w_bp ?_
                  refine w_aln rfl ?_
                  refine w_gr gm rfl (by decide) rfl ((congrFun (congrFun s7.2.2.2.2.2.1 m) 7).trans r7) ?_
                  refine w_ic ?_
                  refine w_iald (v := PL 4) gha rfl (by show (0 : Int) ≤ 0; omega) (by show 0 < ((221 : Nat) : Int); omega) (s7.2.2.1.1.trans (rfl)) ?_
                  refine w_cv (st := []) rfl gm rfl (Nat.le_of_ble_eq_true rfl) (fun kk h => h) (r_X12_find2 (d := d + 3) hB s7 hb (by omega) (by omega) (rv_y_wo hB (rv_y_le hB hqn) (by omega)) (sp_find.mono hvk8 (fun rk10 lk10 ck10 mk10 hvk10 => ?_) (fun mk10 hvk10 => ?_)))
                  · skip
                    refine w_is ?_
                    show wz _ _ _ _ [some (.inr (.inr (some m))), some (.inl 2), some (.inl 6), some (.inl 99), some (.inl ((rk10 : Nat) : Int))] _ _ _ _ _
                    refine w_il rfl ?_
                    refine w_iflt (fun c11 => ?_) (fun c11 => ?_)
                    · exfalso; omega
                    · skip
                      refine w_aln rfl ?_
                      refine w_gr gm rfl (by decide) rfl ((congrFun (congrFun s7.2.2.2.2.2.1 m) 23).trans r23) ?_
                      refine w_iln rfl ?_
                      have b12 : rv_bt (Ms7.1 hd ((2 : Int).toNat)) ((rk10 : Nat) : Int) = rv_bt (OA (((rk10 : Nat) : Int).toNat)) 6 := s7.2.2.2.1 2 rk10 (by decide) (by omega)
                      refine w_iald (v := (Ms7.1 hd ((2 : Int).toNat))) ghd rfl (by show (0 : Int) ≤ 2; omega) (by show 2 < ((4 : Nat) : Int); omega) (rfl) ?_
                      refine w_il rfl ?_
                      refine w_cs (st := []) rfl (Nat.le_of_ble_eq_true rfl) (fun kk h => h) ⟨Nat.le_of_ble_eq_true rfl, ?_⟩
                      show wz (d + 3) mt_X12_bitOf.2.2.2.2.1 _ mt_X12_bitOf.2.2.2.2.1 [some (.inl (Ms7.1 hd ((2 : Int).toNat))), some (.inl ((rk10 : Nat) : Int))] [] _ _ _ _
                      refine w_iln rfl ?_
                      refine w_iln rfl ?_
                      refine w_shr ?_
                      intro z13 hz13 ez13
                      refine w_ic ?_
                      refine w_and ?_
                      intro z14 hz14 ez14
                      obtain rfl : z14 = rv_bt (Ms7.1 hd ((2 : Int).toNat)) ((rk10 : Nat) : Int) := by rw [ez14, ez13]; rfl
                      have hz14 := rv_bt_01 (Ms7.1 hd ((2 : Int).toNat)) ((rk10 : Nat) : Int)
                      refine w_ic ?_
                      refine w_cmne (fun c15 => ?_) (fun c15 => ?_)
                      · skip
                        refine w_ic ?_
                        refine w_iret (fun _ => Or.inl rfl) ?_
                        refine w_ifeq (fun c16 => ?_) (fun c16 => ?_)
                        · skip
                          refine w_aln rfl ?_
                          refine w_gr gm rfl (by decide) rfl ((congrFun (congrFun s7.2.2.2.2.2.1 m) 23).trans r23) ?_
                          refine w_iln rfl ?_
                          refine w_dup2 ?_
                          have b17 : rv_bt (Ms7.1 hd ((2 : Int).toNat)) ((rk10 : Nat) : Int) = rv_bt (OA (((rk10 : Nat) : Int).toNat)) 6 := s7.2.2.2.1 2 rk10 (by decide) (by omega)
                          refine w_iald (v := (Ms7.1 hd ((2 : Int).toNat))) ghd rfl (by show (0 : Int) ≤ 2; omega) (by show 2 < ((4 : Nat) : Int); omega) (rfl) ?_
                          refine w_ic ?_
                          refine w_il rfl ?_
                          refine w_shl ?_
                          intro z18 hz18 ez18
                          refine w_or ?_
                          intro z19 hz19 ez19
                          obtain rfl : z19 = rv_bs (Ms7.1 hd ((2 : Int).toNat)) ((rk10 : Nat) : Int) := by rw [ez19, ez18]; rfl
                          refine w_iast ghd rfl (by decide) (by show (0 : Int) ≤ 2; omega) (by show 2 < ((4 : Nat) : Int); omega) ?_
                          have s20 := s7.shad (s := 2) (k := rk10) hB.1 (by decide) (by omega)
                          refine w_aln rfl ?_
                          refine w_il rfl ?_
                          refine w_pi gm rfl (by decide) rfl (fun q => by cases q) ?_
                          have s21 := s20.sof (v := ((rk10 : Nat) : Int)) hB.1
                          refine w_aln rfl ?_
                          refine w_cv (st := []) rfl gm rfl (Nat.le_of_ble_eq_true rfl) (fun kk h => h) (r_nxtT (d := d + 2) hB s21 (by omega) (by omega) (rv_y_le hB hqn) (fun Ms22 s22 => ?_))
                          refine w_aln rfl ?_
                          refine w_ic ?_
                          refine w_iln rfl ?_
                          have h23 := hvk10.2 (by omega)
                          clear hvk10
                          have h24 := h23.1 (by omega)
                          clear h23
                          refine w_cv (st := []) rfl gm rfl (Nat.le_of_ble_eq_true rfl) (fun kk h => h) (r_X12_takes2 (d := d + 1) hB s22 (rv_y_le hB (rv_y_le hB hqn)) (sp_num.mono h24 (fun fk25 ak25 hfk25 Mk25 Fk25 => ?_) (fun bk25 ck25 ek25 hvk25 Mk25 sk25 => ?_)))
                          · skip
                            refine w_ifne (fun c26 => ?_) (fun c26 => ?_)
                            · exfalso; omega
                            · skip
                              refine w_ic ?_
                              refine w_iret (fun _ => Or.inl rfl) ?_
                              exact w_iret (fun _ => Or.inl rfl) (hfk25 _ Fk25)
                          · skip
                            refine w_ifne (fun c27 => ?_) (fun c27 => ?_)
                            · skip
                              refine w_aln rfl ?_
                              refine w_gr gm rfl (by decide) rfl ((congrFun (congrFun sk25.2.2.2.2.2.1 m) 7).trans r7) ?_
                              refine w_ic ?_
                              refine w_bp ?_
                              refine w_il rfl ?_
                              refine w_mul ⟨by show (-2147483648 : Int) ≤ 9 * ((rk10 : Nat) : Int); omega, by show 9 * ((rk10 : Nat) : Int) < (2147483648 : Int); omega⟩ ?_
                              refine w_add ⟨by show (-2147483648 : Int) ≤ 4 + (9 * ((rk10 : Nat) : Int)); omega, by show 4 + (9 * ((rk10 : Nat) : Int)) < (2147483648 : Int); omega⟩ ?_
                              refine w_iln rfl ?_
                              refine w_add ⟨by show (-2147483648 : Int) ≤ (4 + (9 * ((rk10 : Nat) : Int))) + 6; omega, by show (4 + (9 * ((rk10 : Nat) : Int))) + 6 < (2147483648 : Int); omega⟩ ?_
                              refine w_aln rfl ?_
                              refine w_gi gm rfl (by decide) rfl (sk25.1.2.2.2.2.2.1) ?_
                              refine w_iast gha rfl (by decide) (by show (0 : Int) ≤ (4 + (9 * ((rk10 : Nat) : Int))) + 6; omega) (by show (4 + (9 * ((rk10 : Nat) : Int))) + 6 < ((221 : Nat) : Int); omega) ?_
                              have s28 := sk25.htold (j := ((4 + (9 * ((rk10 : Nat) : Int))) + 6).toNat) (k := ((rk10 : Nat) : Int).toNat) (i := 6) (v := (T (rv_x T (rv_x T q))).2.2.1) hB.1 (by omega) (by omega) (by omega)
                              refine w_ic ?_
                              refine w_iret (fun _ => Or.inr rfl) ?_
                              exact w_iret (fun _ => Or.inr rfl) (hvk25 (Nat.le_trans (Nat.le_trans (Nat.le_refl q) (rv_y_ge hB hqn)) (rv_y_ge hB (rv_y_le hB hqn))) (rv_y_le hB (rv_y_le hB hqn)) hb _ _ _ (rv_R.bb rfl s28))
                            · exfalso; omega
                        · exfalso; omega
                      · skip
                        refine w_ic ?_
                        refine w_goto ?_
                        refine w_iret (fun _ => Or.inr rfl) ?_
                        refine w_ifeq (fun c29 => ?_) (fun c29 => ?_)
                        · exfalso; omega
                        · skip
                          refine w_aln rfl ?_
                          refine w_ic ?_
                          have h31 := hvk10.2 (by omega)
                          clear hvk10
                          have h32 := h31.2 (by omega)
                          clear h31
                          refine w_cv (st := []) rfl gm rfl (Nat.le_of_ble_eq_true rfl) (fun kk h => h) (r_X12_bad2 (d := d + 3) hB s7 (fun MF30 F30 => ?_))
                          refine w_iret (fun _ => Or.inl rfl) ?_
                          exact w_iret (fun _ => Or.inl rfl) (h32 _ F30)
                  · skip
                    refine w_is ?_
                    show wz _ _ _ _ [some (.inr (.inr (some m))), some (.inl 2), some (.inl 6), some (.inl 99), some (.inl (-1))] _ _ _ _ _
                    refine w_il rfl ?_
                    refine w_iflt (fun c33 => ?_) (fun c33 => ?_)
                    · skip
                      refine w_aln rfl ?_
                      refine w_ic ?_
                      have h35 := hvk10.1 (by omega)
                      clear hvk10
                      refine w_cv (st := []) rfl gm rfl (Nat.le_of_ble_eq_true rfl) (fun kk h => h) (r_X12_bad2 (d := d + 3) hB s7 (fun MF34 F34 => ?_))
                      refine w_iret (fun _ => Or.inl rfl) ?_
                      exact w_iret (fun _ => Or.inl rfl) (h35 _ F34)
                    · exfalso; omega
                · exfalso; omega
              · skip
                have hvk8 := sp_nam.bad h ck8
                refine w_ifne (fun c36 => ?_) (fun c36 => ?_)
                · exfalso; omega
                · skip
                  refine w_aln rfl ?_
                  refine w_ic ?_
                  refine w_cv (st := []) rfl gm rfl (Nat.le_of_ble_eq_true rfl) (fun kk h => h) (r_X12_bad2 (d := d + 3) hB s7 (fun MF37 F37 => ?_))
                  refine w_iret (fun _ => Or.inl rfl) ?_
                  exact w_iret (fun _ => Or.inl rfl) (hvk8 _ F37)
          · exfalso; omega
        · exfalso; omega
      · exfalso; omega
    · exfalso; omega
  · exfalso; omega
set_option maxHeartbeats 4000000 in
theorem r_rR_6 {G : mj_G} {M0 M : mj_M} {B : Nat → Int} {n lim m bt ha hd ns rs sx : Nat} {T : Nat → Nat × Nat × Int × List Int × Nat} {PL WA OA : Nat → Int} {TO BI : Nat → Nat → Int} {nm : Nat → List Int} {g z r : Int} {Q : mj_P} {d q : Nat} (hB : rv_BT G M0 B n lim m bt ha hd ns rs sx T) (hS : rv_R M0 n lim m bt ha hd ns rs sx (T q) PL WA OA TO BI nm (PL 4) g z r M) (hqn : q ≤ n) (hb : rv_pb PL) (hk1 : (T q).1 = 1) (hj : rv_rs.getD 6 [] = (T q).2.2.2.1) (h : sp_field T PL WA OA TO BI nm q (fun f a => ∀ M', rv_FR M0 m sx ha f a M' → Q (some (.inl 0)) G M') (fun PL WA OA TO BI nm q' => q ≤ q' → q' ≤ n → rv_pb PL → ∀ g z M', rv_R M0 n lim m bt ha hd ns rs sx (T (rv_x T q')) PL WA OA TO BI nm (PL 4) g z r M' → Q (some (.inl 1)) G M')) : mj_R mj_tab (d + 6) 237 [.inr (.inr (some m))] G M Q := by
  obtain ⟨⟨gm, gbt, gha, ghd, gns, grs, r1, r7, r23, r9, r10, rb, rr, n1, n2, gsx, r6⟩, hT⟩ := id hB
  obtain ⟨b1, b2, b3, b4⟩ := id hb
  unfold sp_field at h
  refine ⟨Nat.le_of_ble_eq_true rfl, ?_⟩
  show wz (d + 5) mt_X12_row.2.2.2.2.1 Q mt_X12_row.2.2.2.2.1 [some (.inr (.inr (some m))), none] [] G M _ _
  refine w_aln rfl ?_
  refine w_l2 ?_
  refine w_cv (st := []) rfl gm rfl (Nat.le_of_ble_eq_true rfl) (fun kk h => h) (r_isWord0 (d := d + 4) (i := 0) hB hS hqn (by decide) (by decide +kernel) (fun e => absurd (rv_rs_i 0 (by decide) 6 (by decide) (e.2.trans hj.symm)) (by decide)) ?_)
  refine w_ifeq (fun c1 => ?_) (fun c1 => ?_)
  · skip
    refine w_aln rfl ?_
    refine w_l2 ?_
    refine w_cv (st := []) rfl gm rfl (Nat.le_of_ble_eq_true rfl) (fun kk h => h) (r_isWord0 (d := d + 4) (i := 1) hB hS hqn (by decide) (by decide +kernel) (fun e => absurd (rv_rs_i 1 (by decide) 6 (by decide) (e.2.trans hj.symm)) (by decide)) ?_)
    refine w_ifeq (fun c2 => ?_) (fun c2 => ?_)
    · skip
      refine w_aln rfl ?_
      refine w_l2 ?_
      refine w_cv (st := []) rfl gm rfl (Nat.le_of_ble_eq_true rfl) (fun kk h => h) (r_isWord0 (d := d + 4) (i := 2) hB hS hqn (by decide) (by decide +kernel) (fun e => absurd (rv_rs_i 2 (by decide) 6 (by decide) (e.2.trans hj.symm)) (by decide)) ?_)
      refine w_ifeq (fun c3 => ?_) (fun c3 => ?_)
      · skip
        refine w_aln rfl ?_
        refine w_l2 ?_
        refine w_cv (st := []) rfl gm rfl (Nat.le_of_ble_eq_true rfl) (fun kk h => h) (r_isWord0 (d := d + 4) (i := 3) hB hS hqn (by decide) (by decide +kernel) (fun e => absurd (rv_rs_i 3 (by decide) 6 (by decide) (e.2.trans hj.symm)) (by decide)) ?_)
        refine w_ifeq (fun c4 => ?_) (fun c4 => ?_)
        · skip
          refine w_aln rfl ?_
          refine w_l2 ?_
          refine w_cv (st := []) rfl gm rfl (Nat.le_of_ble_eq_true rfl) (fun kk h => h) (r_isWord0 (d := d + 4) (i := 4) hB hS hqn (by decide) (by decide +kernel) (fun e => absurd (rv_rs_i 4 (by decide) 6 (by decide) (e.2.trans hj.symm)) (by decide)) ?_)
          refine w_ifeq (fun c5 => ?_) (fun c5 => ?_)
          · skip
            refine w_aln rfl ?_
            refine w_l2 ?_
            refine w_cv (st := []) rfl gm rfl (Nat.le_of_ble_eq_true rfl) (fun kk h => h) (r_isWord0 (d := d + 4) (i := 5) hB hS hqn (by decide) (by decide +kernel) (fun e => absurd (rv_rs_i 5 (by decide) 6 (by decide) (e.2.trans hj.symm)) (by decide)) ?_)
            refine w_ifeq (fun c6 => ?_) (fun c6 => ?_)
            · skip
              refine w_aln rfl ?_
              refine w_l2 ?_
              refine w_cv (st := []) rfl gm rfl (Nat.le_of_ble_eq_true rfl) (fun kk h => h) (r_isWord1 (d := d + 4) (i := 6) hB hS hqn (by decide) (by decide +kernel) ⟨hk1, hj⟩ ?_)
              refine w_ifeq (fun c7 => ?_) (fun c7 => ?_)
              · exfalso; omega
              · skip
                refine w_aln rfl ?_
                refine w_ic ?_
                refine w_bp ?_
                refine w_bp ?_
                refine w_cv (st := []) rfl gm rfl (Nat.le_of_ble_eq_true rfl) (fun kk h => h) ⟨Nat.le_of_ble_eq_true rfl, ?_⟩
                show wz (d + 4) mt_X12_readOf.2.2.2.2.1 _ mt_X12_readOf.2.2.2.2.1 [some (.inr (.inr (some m))), some (.inl 3), some (.inl 7), some (.inl 99), none] [] _ _ _ _
                refine w_aln rfl ?_
                refine w_cv (st := []) rfl gm rfl (Nat.le_of_ble_eq_true rfl) (fun kk h => h) (r_nxtT (d := d + 2) hB hS (by omega) (by omega) hqn (fun Ms8 s8 => ?_))
                refine w_aln rfl ?_
                refine w_cv (st := []) rfl gm rfl (Nat.le_of_ble_eq_true rfl) (fun kk h => h) (r_X12_isName2 (d := d + 3) hB s8 (rv_y_le hB hqn) (fun bk9 ck9 => ?_) (fun ck9 => ?_))
                · skip
                  have hvk9 := (h.1 bk9).1 ck9
                  refine w_ifne (fun c10 => ?_) (fun c10 => ?_)
                  · skip
                    refine w_aln rfl ?_
                    refine w_bp ?_
                    refine w_aln rfl ?_
                    refine w_gr gm rfl (by decide) rfl ((congrFun (congrFun s8.2.2.2.2.2.1 m) 7).trans r7) ?_
                    refine w_ic ?_
                    refine w_iald (v := PL 4) gha rfl (by show (0 : Int) ≤ 0; omega) (by show 0 < ((221 : Nat) : Int); omega) (s8.2.2.1.1.trans (rfl)) ?_
                    refine w_cv (st := []) rfl gm rfl (Nat.le_of_ble_eq_true rfl) (fun kk h => h) (r_X12_find2 (d := d + 3) hB s8 hb (by omega) (by omega) (rv_y_wo hB (rv_y_le hB hqn) (by omega)) (sp_find.mono hvk9 (fun rk11 lk11 ck11 mk11 hvk11 => ?_) (fun mk11 hvk11 => ?_)))
                    · skip
                      refine w_is ?_
                      show wz _ _ _ _ [some (.inr (.inr (some m))), some (.inl 3), some (.inl 7), some (.inl 99), some (.inl ((rk11 : Nat) : Int))] _ _ _ _ _
                      refine w_il rfl ?_
                      refine w_iflt (fun c12 => ?_) (fun c12 => ?_)
                      · exfalso; omega
                      · skip
                        refine w_aln rfl ?_
                        refine w_gr gm rfl (by decide) rfl ((congrFun (congrFun s8.2.2.2.2.2.1 m) 23).trans r23) ?_
                        refine w_iln rfl ?_
                        have b13 : rv_bt (Ms8.1 hd ((3 : Int).toNat)) ((rk11 : Nat) : Int) = rv_bt (OA (((rk11 : Nat) : Int).toNat)) 7 := s8.2.2.2.1 3 rk11 (by decide) (by omega)
                        refine w_iald (v := (Ms8.1 hd ((3 : Int).toNat))) ghd rfl (by show (0 : Int) ≤ 3; omega) (by show 3 < ((4 : Nat) : Int); omega) (rfl) ?_
                        refine w_il rfl ?_
                        refine w_cs (st := []) rfl (Nat.le_of_ble_eq_true rfl) (fun kk h => h) ⟨Nat.le_of_ble_eq_true rfl, ?_⟩
                        show wz (d + 3) mt_X12_bitOf.2.2.2.2.1 _ mt_X12_bitOf.2.2.2.2.1 [some (.inl (Ms8.1 hd ((3 : Int).toNat))), some (.inl ((rk11 : Nat) : Int))] [] _ _ _ _
                        refine w_iln rfl ?_
                        refine w_iln rfl ?_
                        refine w_shr ?_
                        intro z14 hz14 ez14
                        refine w_ic ?_
                        refine w_and ?_
                        intro z15 hz15 ez15
                        obtain rfl : z15 = rv_bt (Ms8.1 hd ((3 : Int).toNat)) ((rk11 : Nat) : Int) := by rw [ez15, ez14]; rfl
                        have hz15 := rv_bt_01 (Ms8.1 hd ((3 : Int).toNat)) ((rk11 : Nat) : Int)
                        refine w_ic ?_
                        refine w_cmne (fun c16 => ?_) (fun c16 => ?_)
                        · skip
                          refine w_ic ?_
                          refine w_iret (fun _ => Or.inl rfl) ?_
                          refine w_ifeq (fun c17 => ?_) (fun c17 => ?_)
                          · skip
                            refine w_aln rfl ?_
                            refine w_gr gm rfl (by decide) rfl ((congrFun (congrFun s8.2.2.2.2.2.1 m) 23).trans r23) ?_
                            refine w_iln rfl ?_
                            refine w_dup2 ?_
                            have b18 : rv_bt (Ms8.1 hd ((3 : Int).toNat)) ((rk11 : Nat) : Int) = rv_bt (OA (((rk11 : Nat) : Int).toNat)) 7 := s8.2.2.2.1 3 rk11 (by decide) (by omega)
                            refine w_iald (v := (Ms8.1 hd ((3 : Int).toNat))) ghd rfl (by show (0 : Int) ≤ 3; omega) (by show 3 < ((4 : Nat) : Int); omega) (rfl) ?_
                            refine w_ic ?_
                            refine w_il rfl ?_
                            refine w_shl ?_
                            intro z19 hz19 ez19
                            refine w_or ?_
                            intro z20 hz20 ez20
                            obtain rfl : z20 = rv_bs (Ms8.1 hd ((3 : Int).toNat)) ((rk11 : Nat) : Int) := by rw [ez20, ez19]; rfl
                            refine w_iast ghd rfl (by decide) (by show (0 : Int) ≤ 3; omega) (by show 3 < ((4 : Nat) : Int); omega) ?_
                            have s21 := s8.shad (s := 3) (k := rk11) hB.1 (by decide) (by omega)
                            refine w_aln rfl ?_
                            refine w_il rfl ?_
                            refine w_pi gm rfl (by decide) rfl (fun q => by cases q) ?_
                            have s22 := s21.sof (v := ((rk11 : Nat) : Int)) hB.1
                            refine w_aln rfl ?_
                            refine w_cv (st := []) rfl gm rfl (Nat.le_of_ble_eq_true rfl) (fun kk h => h) (r_nxtT (d := d + 2) hB s22 (by omega) (by omega) (rv_y_le hB hqn) (fun Ms23 s23 => ?_))
                            refine w_aln rfl ?_
                            refine w_ic ?_
                            refine w_iln rfl ?_
                            have h24 := hvk11.2 (by omega)
                            clear hvk11
                            have h25 := h24.1 (by omega)
                            clear h24
                            refine w_cv (st := []) rfl gm rfl (Nat.le_of_ble_eq_true rfl) (fun kk h => h) (r_X12_takes2 (d := d + 1) hB s23 (rv_y_le hB (rv_y_le hB hqn)) (sp_num.mono h25 (fun fk26 ak26 hfk26 Mk26 Fk26 => ?_) (fun bk26 ck26 ek26 hvk26 Mk26 sk26 => ?_)))
                            · skip
                              refine w_ifne (fun c27 => ?_) (fun c27 => ?_)
                              · exfalso; omega
                              · skip
                                refine w_ic ?_
                                refine w_iret (fun _ => Or.inl rfl) ?_
                                refine w_ifne (fun c28 => ?_) (fun c28 => ?_)
                                · exfalso; omega
                                · skip
                                  refine w_ic ?_
                                  exact w_iret (fun _ => Or.inl rfl) (hfk26 _ Fk26)
                            · skip
                              refine w_ifne (fun c29 => ?_) (fun c29 => ?_)
                              · skip
                                refine w_aln rfl ?_
                                refine w_gr gm rfl (by decide) rfl ((congrFun (congrFun sk26.2.2.2.2.2.1 m) 7).trans r7) ?_
                                refine w_ic ?_
                                refine w_bp ?_
                                refine w_il rfl ?_
                                refine w_mul ⟨by show (-2147483648 : Int) ≤ 9 * ((rk11 : Nat) : Int); omega, by show 9 * ((rk11 : Nat) : Int) < (2147483648 : Int); omega⟩ ?_
                                refine w_add ⟨by show (-2147483648 : Int) ≤ 4 + (9 * ((rk11 : Nat) : Int)); omega, by show 4 + (9 * ((rk11 : Nat) : Int)) < (2147483648 : Int); omega⟩ ?_
                                refine w_iln rfl ?_
                                refine w_add ⟨by show (-2147483648 : Int) ≤ (4 + (9 * ((rk11 : Nat) : Int))) + 7; omega, by show (4 + (9 * ((rk11 : Nat) : Int))) + 7 < (2147483648 : Int); omega⟩ ?_
                                refine w_aln rfl ?_
                                refine w_gi gm rfl (by decide) rfl (sk26.1.2.2.2.2.2.1) ?_
                                refine w_iast gha rfl (by decide) (by show (0 : Int) ≤ (4 + (9 * ((rk11 : Nat) : Int))) + 7; omega) (by show (4 + (9 * ((rk11 : Nat) : Int))) + 7 < ((221 : Nat) : Int); omega) ?_
                                have s30 := sk26.htold (j := ((4 + (9 * ((rk11 : Nat) : Int))) + 7).toNat) (k := ((rk11 : Nat) : Int).toNat) (i := 7) (v := (T (rv_x T (rv_x T q))).2.2.1) hB.1 (by omega) (by omega) (by omega)
                                refine w_ic ?_
                                refine w_iret (fun _ => Or.inr rfl) ?_
                                refine w_ifne (fun c31 => ?_) (fun c31 => ?_)
                                · skip
                                  refine w_aln rfl ?_
                                  refine w_gi gm rfl (by decide) rfl (s30.1.2.2.2.2.2.2.1) ?_
                                  refine w_isn ?_
                                  show wz _ _ _ _ [some (.inr (.inr (some m))), some (.inl ((rk11 : Nat) : Int))] _ _ _ _ _
                                  refine w_aln rfl ?_
                                  refine w_ic ?_
                                  refine w_bp ?_
                                  refine w_cv (st := []) rfl gm rfl (Nat.le_of_ble_eq_true rfl) (fun kk h => h) (r_X12_takes2 (d := d + 2) hB s30 (rv_y_le hB (rv_y_le hB (rv_y_le hB hqn))) (sp_num.mono hvk26 (fun fk32 ak32 hfk32 Mk32 Fk32 => ?_) (fun bk32 ck32 ek32 hvk32 Mk32 sk32 => ?_)))
                                  · skip
                                    refine w_ifne (fun c33 => ?_) (fun c33 => ?_)
                                    · exfalso; omega
                                    · skip
                                      refine w_ic ?_
                                      exact w_iret (fun _ => Or.inl rfl) (hfk32 _ Fk32)
                                  · skip
                                    refine w_ifne (fun c34 => ?_) (fun c34 => ?_)
                                    · skip
                                      refine w_aln rfl ?_
                                      refine w_gr gm rfl (by decide) rfl ((congrFun (congrFun sk32.2.2.2.2.2.1 m) 7).trans r7) ?_
                                      refine w_ic ?_
                                      refine w_bp ?_
                                      refine w_iln rfl ?_
                                      refine w_mul ⟨by show (-2147483648 : Int) ≤ 9 * ((rk11 : Nat) : Int); omega, by show 9 * ((rk11 : Nat) : Int) < (2147483648 : Int); omega⟩ ?_
                                      refine w_add ⟨by show (-2147483648 : Int) ≤ 4 + (9 * ((rk11 : Nat) : Int)); omega, by show 4 + (9 * ((rk11 : Nat) : Int)) < (2147483648 : Int); omega⟩ ?_
                                      refine w_bp ?_
                                      refine w_add ⟨by show (-2147483648 : Int) ≤ (4 + (9 * ((rk11 : Nat) : Int))) + 8; omega, by show (4 + (9 * ((rk11 : Nat) : Int))) + 8 < (2147483648 : Int); omega⟩ ?_
                                      refine w_aln rfl ?_
                                      refine w_gi gm rfl (by decide) rfl (sk32.1.2.2.2.2.2.1) ?_
                                      refine w_iast gha rfl (by decide) (by show (0 : Int) ≤ (4 + (9 * ((rk11 : Nat) : Int))) + 8; omega) (by show (4 + (9 * ((rk11 : Nat) : Int))) + 8 < ((221 : Nat) : Int); omega) ?_
                                      have s35 := sk32.htold (j := ((4 + (9 * ((rk11 : Nat) : Int))) + 8).toNat) (k := ((rk11 : Nat) : Int).toNat) (i := 8) (v := (T (rv_x T (rv_x T (rv_x T q)))).2.2.1) hB.1 (by omega) (by omega) (by omega)
                                      refine w_ic ?_
                                      exact w_iret (fun _ => Or.inr rfl) (hvk32 (Nat.le_trans (Nat.le_trans (Nat.le_trans (Nat.le_refl q) (rv_y_ge hB hqn)) (rv_y_ge hB (rv_y_le hB hqn))) (rv_y_ge hB (rv_y_le hB (rv_y_le hB hqn)))) (rv_y_le hB (rv_y_le hB (rv_y_le hB hqn))) hb _ _ _ (by rw [rv_up2_c (by decide)]; exact (rv_R.bb rfl s35)))
                                    · exfalso; omega
                                · exfalso; omega
                              · exfalso; omega
                          · exfalso; omega
                        · skip
                          refine w_ic ?_
                          refine w_goto ?_
                          refine w_iret (fun _ => Or.inr rfl) ?_
                          refine w_ifeq (fun c36 => ?_) (fun c36 => ?_)
                          · exfalso; omega
                          · skip
                            refine w_aln rfl ?_
                            refine w_ic ?_
                            have h38 := hvk11.2 (by omega)
                            clear hvk11
                            have h39 := h38.2 (by omega)
                            clear h38
                            refine w_cv (st := []) rfl gm rfl (Nat.le_of_ble_eq_true rfl) (fun kk h => h) (r_X12_bad2 (d := d + 3) hB s8 (fun MF37 F37 => ?_))
                            refine w_iret (fun _ => Or.inl rfl) ?_
                            refine w_ifne (fun c40 => ?_) (fun c40 => ?_)
                            · exfalso; omega
                            · skip
                              refine w_ic ?_
                              exact w_iret (fun _ => Or.inl rfl) (h39 _ F37)
                    · skip
                      refine w_is ?_
                      show wz _ _ _ _ [some (.inr (.inr (some m))), some (.inl 3), some (.inl 7), some (.inl 99), some (.inl (-1))] _ _ _ _ _
                      refine w_il rfl ?_
                      refine w_iflt (fun c41 => ?_) (fun c41 => ?_)
                      · skip
                        refine w_aln rfl ?_
                        refine w_ic ?_
                        have h43 := hvk11.1 (by omega)
                        clear hvk11
                        refine w_cv (st := []) rfl gm rfl (Nat.le_of_ble_eq_true rfl) (fun kk h => h) (r_X12_bad2 (d := d + 3) hB s8 (fun MF42 F42 => ?_))
                        refine w_iret (fun _ => Or.inl rfl) ?_
                        refine w_ifne (fun c44 => ?_) (fun c44 => ?_)
                        · exfalso; omega
                        · skip
                          refine w_ic ?_
                          exact w_iret (fun _ => Or.inl rfl) (h43 _ F42)
                      · exfalso; omega
                  · exfalso; omega
                · skip
                  have hvk9 := sp_nam.bad h ck9
                  refine w_ifne (fun c45 => ?_) (fun c45 => ?_)
                  · exfalso; omega
                  · skip
                    refine w_aln rfl ?_
                    refine w_ic ?_
                    refine w_cv (st := []) rfl gm rfl (Nat.le_of_ble_eq_true rfl) (fun kk h => h) (r_X12_bad2 (d := d + 3) hB s8 (fun MF46 F46 => ?_))
                    refine w_iret (fun _ => Or.inl rfl) ?_
                    refine w_ifne (fun c47 => ?_) (fun c47 => ?_)
                    · exfalso; omega
                    · skip
                      refine w_ic ?_
                      exact w_iret (fun _ => Or.inl rfl) (hvk9 _ F46)
            · exfalso; omega
          · exfalso; omega
        · exfalso; omega
      · exfalso; omega
    · exfalso; omega
  · exfalso; omega
set_option maxHeartbeats 4000000 in
theorem r_rR_7 {G : mj_G} {M0 M : mj_M} {B : Nat → Int} {n lim m bt ha hd ns rs sx : Nat} {T : Nat → Nat × Nat × Int × List Int × Nat} {PL WA OA : Nat → Int} {TO BI : Nat → Nat → Int} {nm : Nat → List Int} {g z r : Int} {Q : mj_P} {d q : Nat} (hB : rv_BT G M0 B n lim m bt ha hd ns rs sx T) (hS : rv_R M0 n lim m bt ha hd ns rs sx (T q) PL WA OA TO BI nm (PL 4) g z r M) (hqn : q ≤ n) (hb : rv_pb PL) (hk1 : (T q).1 = 1) (hj : rv_rs.getD 7 [] = (T q).2.2.2.1) (h : sp_move T PL WA OA TO BI nm q (fun f a => ∀ M', rv_FR M0 m sx ha f a M' → Q (some (.inl 0)) G M') (fun PL WA OA TO BI nm q' => q ≤ q' → q' ≤ n → rv_pb PL → ∀ g z M', rv_R M0 n lim m bt ha hd ns rs sx (T (rv_x T q')) PL WA OA TO BI nm (PL 4) g z r M' → Q (some (.inl 1)) G M')) : mj_R mj_tab (d + 6) 237 [.inr (.inr (some m))] G M Q := by
  obtain ⟨⟨gm, gbt, gha, ghd, gns, grs, r1, r7, r23, r9, r10, rb, rr, n1, n2, gsx, r6⟩, hT⟩ := id hB
  obtain ⟨b1, b2, b3, b4⟩ := id hb
  unfold sp_move at h
  have ho : rv_bt (M.1 m 20) 0 = PL 12 := hS.1.2.2.2.2.1 0 (by decide)
  refine ⟨Nat.le_of_ble_eq_true rfl, ?_⟩
  show wz (d + 5) mt_X12_row.2.2.2.2.1 Q mt_X12_row.2.2.2.2.1 [some (.inr (.inr (some m))), none] [] G M _ _
  refine w_aln rfl ?_
  refine w_l2 ?_
  refine w_cv (st := []) rfl gm rfl (Nat.le_of_ble_eq_true rfl) (fun kk h => h) (r_isWord0 (d := d + 4) (i := 0) hB hS hqn (by decide) (by decide +kernel) (fun e => absurd (rv_rs_i 0 (by decide) 7 (by decide) (e.2.trans hj.symm)) (by decide)) ?_)
  refine w_ifeq (fun c1 => ?_) (fun c1 => ?_)
  · skip
    refine w_aln rfl ?_
    refine w_l2 ?_
    refine w_cv (st := []) rfl gm rfl (Nat.le_of_ble_eq_true rfl) (fun kk h => h) (r_isWord0 (d := d + 4) (i := 1) hB hS hqn (by decide) (by decide +kernel) (fun e => absurd (rv_rs_i 1 (by decide) 7 (by decide) (e.2.trans hj.symm)) (by decide)) ?_)
    refine w_ifeq (fun c2 => ?_) (fun c2 => ?_)
    · skip
      refine w_aln rfl ?_
      refine w_l2 ?_
      refine w_cv (st := []) rfl gm rfl (Nat.le_of_ble_eq_true rfl) (fun kk h => h) (r_isWord0 (d := d + 4) (i := 2) hB hS hqn (by decide) (by decide +kernel) (fun e => absurd (rv_rs_i 2 (by decide) 7 (by decide) (e.2.trans hj.symm)) (by decide)) ?_)
      refine w_ifeq (fun c3 => ?_) (fun c3 => ?_)
      · skip
        refine w_aln rfl ?_
        refine w_l2 ?_
        refine w_cv (st := []) rfl gm rfl (Nat.le_of_ble_eq_true rfl) (fun kk h => h) (r_isWord0 (d := d + 4) (i := 3) hB hS hqn (by decide) (by decide +kernel) (fun e => absurd (rv_rs_i 3 (by decide) 7 (by decide) (e.2.trans hj.symm)) (by decide)) ?_)
        refine w_ifeq (fun c4 => ?_) (fun c4 => ?_)
        · skip
          refine w_aln rfl ?_
          refine w_l2 ?_
          refine w_cv (st := []) rfl gm rfl (Nat.le_of_ble_eq_true rfl) (fun kk h => h) (r_isWord0 (d := d + 4) (i := 4) hB hS hqn (by decide) (by decide +kernel) (fun e => absurd (rv_rs_i 4 (by decide) 7 (by decide) (e.2.trans hj.symm)) (by decide)) ?_)
          refine w_ifeq (fun c5 => ?_) (fun c5 => ?_)
          · skip
            refine w_aln rfl ?_
            refine w_l2 ?_
            refine w_cv (st := []) rfl gm rfl (Nat.le_of_ble_eq_true rfl) (fun kk h => h) (r_isWord0 (d := d + 4) (i := 5) hB hS hqn (by decide) (by decide +kernel) (fun e => absurd (rv_rs_i 5 (by decide) 7 (by decide) (e.2.trans hj.symm)) (by decide)) ?_)
            refine w_ifeq (fun c6 => ?_) (fun c6 => ?_)
            · skip
              refine w_aln rfl ?_
              refine w_l2 ?_
              refine w_cv (st := []) rfl gm rfl (Nat.le_of_ble_eq_true rfl) (fun kk h => h) (r_isWord0 (d := d + 4) (i := 6) hB hS hqn (by decide) (by decide +kernel) (fun e => absurd (rv_rs_i 6 (by decide) 7 (by decide) (e.2.trans hj.symm)) (by decide)) ?_)
              refine w_ifeq (fun c7 => ?_) (fun c7 => ?_)
              · skip
                refine w_aln rfl ?_
                refine w_l2 ?_
                refine w_cv (st := []) rfl gm rfl (Nat.le_of_ble_eq_true rfl) (fun kk h => h) (r_isWord1 (d := d + 4) (i := 7) hB hS hqn (by decide) (by decide +kernel) ⟨hk1, hj⟩ ?_)
                refine w_ifeq (fun c8 => ?_) (fun c8 => ?_)
                · exfalso; omega
                · skip
                  refine w_ic ?_
                  refine w_goto ?_
                  refine w_isn ?_
                  show wz _ _ _ _ [some (.inr (.inr (some m))), some (.inl 0)] _ _ _ _ _
                  refine w_iln rfl ?_
                  refine w_ifge (fun c9 => ?_) (fun c9 => ?_)
                  · skip
                    refine w_aln rfl ?_
                    refine w_gi gm rfl (by decide) rfl (rfl) ?_
                    refine w_iln rfl ?_
                    refine w_cs (st := []) rfl (Nat.le_of_ble_eq_true rfl) (fun kk h => h) ⟨Nat.le_of_ble_eq_true rfl, ?_⟩
                    show wz (d + 4) mt_X12_bitOf.2.2.2.2.1 _ mt_X12_bitOf.2.2.2.2.1 [some (.inl (M.1 m 20)), some (.inl 0)] [] _ _ _ _
                    refine w_iln rfl ?_
                    refine w_iln rfl ?_
                    refine w_shr ?_
                    intro z10 hz10 ez10
                    refine w_ic ?_
                    refine w_and ?_
                    intro z11 hz11 ez11
                    obtain rfl : z11 = rv_bt (M.1 m 20) 0 := by rw [ez11, ez10]; rfl
                    have hz11 := rv_bt_01 (M.1 m 20) 0
                    refine w_ic ?_
                    refine w_cmne (fun c12 => ?_) (fun c12 => ?_)
                    · skip
                      refine w_ic ?_
                      refine w_iret (fun _ => Or.inl rfl) ?_
                      refine w_ifeq (fun c13 => ?_) (fun c13 => ?_)
                      · skip
                        refine w_aln rfl ?_
                        refine w_dupr ?_
                        refine w_gi gm rfl (by decide) rfl (rfl) ?_
                        refine w_ic ?_
                        refine w_iln rfl ?_
                        refine w_shl ?_
                        intro z14 hz14 ez14
                        refine w_or ?_
                        intro z15 hz15 ez15
                        obtain rfl : z15 = rv_bs (M.1 m 20) 0 := by rw [ez15, ez14]; rfl
                        refine w_pi gm rfl (by decide) rfl (fun q => by cases q) ?_
                        have s16 := hS.sonce (k := 0) hB.1 (by decide)
                        refine w_aln rfl ?_
                        refine w_cv (st := []) rfl gm rfl (Nat.le_of_ble_eq_true rfl) (fun kk h => h) (r_nxtT (d := d + 3) hB s16 (by omega) (by omega) hqn (fun Ms17 s17 => ?_))
                        refine w_aln rfl ?_
                        refine w_iln rfl ?_
                        refine w_ic ?_
                        refine w_cmne (fun c18 => ?_) (fun c18 => ?_)
                        · skip
                          refine w_ic ?_
                          refine w_iln rfl ?_
                          refine w_ifne (fun c19 => ?_) (fun c19 => ?_)
                          · exfalso; omega
                          · skip
                            refine w_bp ?_
                            refine w_goto ?_
                            have h20 := h.1 (by omega)
                            clear h
                            refine w_cv (st := []) rfl gm rfl (Nat.le_of_ble_eq_true rfl) (fun kk h => h) (r_X12_takes2 (d := d + 2) hB s17 (rv_y_le hB hqn) (sp_num.mono h20 (fun fk21 ak21 hfk21 Mk21 Fk21 => ?_) (fun bk21 ck21 ek21 hvk21 Mk21 sk21 => ?_)))
                            · skip
                              refine w_ifne (fun c22 => ?_) (fun c22 => ?_)
                              · exfalso; omega
                              · skip
                                refine w_ic ?_
                                exact w_iret (fun _ => Or.inl rfl) (hfk21 _ Fk21)
                            · skip
                              refine w_ifne (fun c23 => ?_) (fun c23 => ?_)
                              · skip
                                refine w_aln rfl ?_
                                refine w_gr gm rfl (by decide) rfl ((congrFun (congrFun sk21.2.2.2.2.2.1 m) 7).trans r7) ?_
                                refine w_ic ?_
                                refine w_iln rfl ?_
                                refine w_add ⟨by show (-2147483648 : Int) ≤ 1; omega, by show 1 < (2147483648 : Int); omega⟩ ?_
                                refine w_aln rfl ?_
                                refine w_gi gm rfl (by decide) rfl (sk21.1.2.2.2.2.2.1) ?_
                                refine w_iast gha rfl (by decide) (by show (0 : Int) ≤ 1; omega) (by show 1 < ((221 : Nat) : Int); omega) ?_
                                have s24 := sk21.hval0 (j := (1 : Int).toNat) (v := (T (rv_x T q)).2.2.1) hB.1 rfl
                                refine w_ic ?_
                                exact w_iret (fun _ => Or.inr rfl) (hvk21 (Nat.le_trans (Nat.le_refl q) (rv_y_ge hB hqn)) (rv_y_le hB hqn) ⟨by rw [show (rv_up (rv_up PL 12 1) 6 ((T (rv_x T q)).2.2.1)) 4 = PL 4 from (rv_up_n (by decide)).trans ((rv_up_n (by decide)))]; omega, by rw [show (rv_up (rv_up PL 12 1) 6 ((T (rv_x T q)).2.2.1)) 4 = PL 4 from (rv_up_n (by decide)).trans ((rv_up_n (by decide)))]; omega, by rw [show (rv_up (rv_up PL 12 1) 6 ((T (rv_x T q)).2.2.1)) 5 = PL 5 from (rv_up_n (by decide)).trans ((rv_up_n (by decide)))]; omega, by rw [show (rv_up (rv_up PL 12 1) 6 ((T (rv_x T q)).2.2.1)) 5 = PL 5 from (rv_up_n (by decide)).trans ((rv_up_n (by decide)))]; omega⟩ _ _ _ (rv_R.bb (show (rv_up (rv_up PL 12 1) 6 ((T (rv_x T q)).2.2.1)) 4 = PL 4 from (rv_up_n (by decide)).trans ((rv_up_n (by decide)))).symm s24))
                              · exfalso; omega
                        · exfalso; omega
                      · exfalso; omega
                    · skip
                      refine w_ic ?_
                      refine w_goto ?_
                      refine w_iret (fun _ => Or.inr rfl) ?_
                      refine w_ifeq (fun c25 => ?_) (fun c25 => ?_)
                      · exfalso; omega
                      · skip
                        refine w_aln rfl ?_
                        refine w_ic ?_
                        have h27 := h.2 (by omega)
                        clear h
                        refine w_cv (st := []) rfl gm rfl (Nat.le_of_ble_eq_true rfl) (fun kk h => h) (r_X12_bad2 (d := d + 4) hB hS (fun MF26 F26 => ?_))
                        exact w_iret (fun _ => Or.inl rfl) (h27 _ F26)
                  · exfalso; omega
              · exfalso; omega
            · exfalso; omega
          · exfalso; omega
        · exfalso; omega
      · exfalso; omega
    · exfalso; omega
  · exfalso; omega
set_option maxHeartbeats 4000000 in
theorem r_rR_8 {G : mj_G} {M0 M : mj_M} {B : Nat → Int} {n lim m bt ha hd ns rs sx : Nat} {T : Nat → Nat × Nat × Int × List Int × Nat} {PL WA OA : Nat → Int} {TO BI : Nat → Nat → Int} {nm : Nat → List Int} {g z r : Int} {Q : mj_P} {d q : Nat} (hB : rv_BT G M0 B n lim m bt ha hd ns rs sx T) (hS : rv_R M0 n lim m bt ha hd ns rs sx (T q) PL WA OA TO BI nm (PL 4) g z r M) (hqn : q ≤ n) (hb : rv_pb PL) (hk1 : (T q).1 = 1) (hj : rv_rs.getD 8 [] = (T q).2.2.2.1) (h : sp_fish T PL WA OA TO BI nm q (fun f a => ∀ M', rv_FR M0 m sx ha f a M' → Q (some (.inl 0)) G M') (fun PL WA OA TO BI nm q' => q ≤ q' → q' ≤ n → rv_pb PL → ∀ g z M', rv_R M0 n lim m bt ha hd ns rs sx (T (rv_x T q')) PL WA OA TO BI nm (PL 4) g z r M' → Q (some (.inl 1)) G M')) : mj_R mj_tab (d + 6) 237 [.inr (.inr (some m))] G M Q := by
  obtain ⟨⟨gm, gbt, gha, ghd, gns, grs, r1, r7, r23, r9, r10, rb, rr, n1, n2, gsx, r6⟩, hT⟩ := id hB
  obtain ⟨b1, b2, b3, b4⟩ := id hb
  unfold sp_fish at h
  have ho : rv_bt (M.1 m 20) 1 = PL 13 := hS.1.2.2.2.2.1 1 (by decide)
  refine ⟨Nat.le_of_ble_eq_true rfl, ?_⟩
  show wz (d + 5) mt_X12_row.2.2.2.2.1 Q mt_X12_row.2.2.2.2.1 [some (.inr (.inr (some m))), none] [] G M _ _
  refine w_aln rfl ?_
  refine w_l2 ?_
  refine w_cv (st := []) rfl gm rfl (Nat.le_of_ble_eq_true rfl) (fun kk h => h) (r_isWord0 (d := d + 4) (i := 0) hB hS hqn (by decide) (by decide +kernel) (fun e => absurd (rv_rs_i 0 (by decide) 8 (by decide) (e.2.trans hj.symm)) (by decide)) ?_)
  refine w_ifeq (fun c1 => ?_) (fun c1 => ?_)
  · skip
    refine w_aln rfl ?_
    refine w_l2 ?_
    refine w_cv (st := []) rfl gm rfl (Nat.le_of_ble_eq_true rfl) (fun kk h => h) (r_isWord0 (d := d + 4) (i := 1) hB hS hqn (by decide) (by decide +kernel) (fun e => absurd (rv_rs_i 1 (by decide) 8 (by decide) (e.2.trans hj.symm)) (by decide)) ?_)
    refine w_ifeq (fun c2 => ?_) (fun c2 => ?_)
    · skip
      refine w_aln rfl ?_
      refine w_l2 ?_
      refine w_cv (st := []) rfl gm rfl (Nat.le_of_ble_eq_true rfl) (fun kk h => h) (r_isWord0 (d := d + 4) (i := 2) hB hS hqn (by decide) (by decide +kernel) (fun e => absurd (rv_rs_i 2 (by decide) 8 (by decide) (e.2.trans hj.symm)) (by decide)) ?_)
      refine w_ifeq (fun c3 => ?_) (fun c3 => ?_)
      · skip
        refine w_aln rfl ?_
        refine w_l2 ?_
        refine w_cv (st := []) rfl gm rfl (Nat.le_of_ble_eq_true rfl) (fun kk h => h) (r_isWord0 (d := d + 4) (i := 3) hB hS hqn (by decide) (by decide +kernel) (fun e => absurd (rv_rs_i 3 (by decide) 8 (by decide) (e.2.trans hj.symm)) (by decide)) ?_)
        refine w_ifeq (fun c4 => ?_) (fun c4 => ?_)
        · skip
          refine w_aln rfl ?_
          refine w_l2 ?_
          refine w_cv (st := []) rfl gm rfl (Nat.le_of_ble_eq_true rfl) (fun kk h => h) (r_isWord0 (d := d + 4) (i := 4) hB hS hqn (by decide) (by decide +kernel) (fun e => absurd (rv_rs_i 4 (by decide) 8 (by decide) (e.2.trans hj.symm)) (by decide)) ?_)
          refine w_ifeq (fun c5 => ?_) (fun c5 => ?_)
          · skip
            refine w_aln rfl ?_
            refine w_l2 ?_
            refine w_cv (st := []) rfl gm rfl (Nat.le_of_ble_eq_true rfl) (fun kk h => h) (r_isWord0 (d := d + 4) (i := 5) hB hS hqn (by decide) (by decide +kernel) (fun e => absurd (rv_rs_i 5 (by decide) 8 (by decide) (e.2.trans hj.symm)) (by decide)) ?_)
            refine w_ifeq (fun c6 => ?_) (fun c6 => ?_)
            · skip
              refine w_aln rfl ?_
              refine w_l2 ?_
              refine w_cv (st := []) rfl gm rfl (Nat.le_of_ble_eq_true rfl) (fun kk h => h) (r_isWord0 (d := d + 4) (i := 6) hB hS hqn (by decide) (by decide +kernel) (fun e => absurd (rv_rs_i 6 (by decide) 8 (by decide) (e.2.trans hj.symm)) (by decide)) ?_)
              refine w_ifeq (fun c7 => ?_) (fun c7 => ?_)
              · skip
                refine w_aln rfl ?_
                refine w_l2 ?_
                refine w_cv (st := []) rfl gm rfl (Nat.le_of_ble_eq_true rfl) (fun kk h => h) (r_isWord0 (d := d + 4) (i := 7) hB hS hqn (by decide) (by decide +kernel) (fun e => absurd (rv_rs_i 7 (by decide) 8 (by decide) (e.2.trans hj.symm)) (by decide)) ?_)
                refine w_ifeq (fun c8 => ?_) (fun c8 => ?_)
                · skip
                  refine w_aln rfl ?_
                  refine w_l2 ?_
                  refine w_cv (st := []) rfl gm rfl (Nat.le_of_ble_eq_true rfl) (fun kk h => h) (r_isWord1 (d := d + 4) (i := 8) hB hS hqn (by decide) (by decide +kernel) ⟨hk1, hj⟩ ?_)
                  refine w_ifeq (fun c9 => ?_) (fun c9 => ?_)
                  · exfalso; omega
                  · skip
                    refine w_ic ?_
                    refine w_goto ?_
                    refine w_isn ?_
                    show wz _ _ _ _ [some (.inr (.inr (some m))), some (.inl 1)] _ _ _ _ _
                    refine w_iln rfl ?_
                    refine w_ifge (fun c10 => ?_) (fun c10 => ?_)
                    · skip
                      refine w_aln rfl ?_
                      refine w_gi gm rfl (by decide) rfl (rfl) ?_
                      refine w_iln rfl ?_
                      refine w_cs (st := []) rfl (Nat.le_of_ble_eq_true rfl) (fun kk h => h) ⟨Nat.le_of_ble_eq_true rfl, ?_⟩
                      show wz (d + 4) mt_X12_bitOf.2.2.2.2.1 _ mt_X12_bitOf.2.2.2.2.1 [some (.inl (M.1 m 20)), some (.inl 1)] [] _ _ _ _
                      refine w_iln rfl ?_
                      refine w_iln rfl ?_
                      refine w_shr ?_
                      intro z11 hz11 ez11
                      refine w_ic ?_
                      refine w_and ?_
                      intro z12 hz12 ez12
                      obtain rfl : z12 = rv_bt (M.1 m 20) 1 := by rw [ez12, ez11]; rfl
                      have hz12 := rv_bt_01 (M.1 m 20) 1
                      refine w_ic ?_
                      refine w_cmne (fun c13 => ?_) (fun c13 => ?_)
                      · skip
                        refine w_ic ?_
                        refine w_iret (fun _ => Or.inl rfl) ?_
                        refine w_ifeq (fun c14 => ?_) (fun c14 => ?_)
                        · skip
                          refine w_aln rfl ?_
                          refine w_dupr ?_
                          refine w_gi gm rfl (by decide) rfl (rfl) ?_
                          refine w_ic ?_
                          refine w_iln rfl ?_
                          refine w_shl ?_
                          intro z15 hz15 ez15
                          refine w_or ?_
                          intro z16 hz16 ez16
                          obtain rfl : z16 = rv_bs (M.1 m 20) 1 := by rw [ez16, ez15]; rfl
                          refine w_pi gm rfl (by decide) rfl (fun q => by cases q) ?_
                          have s17 := hS.sonce (k := 1) hB.1 (by decide)
                          refine w_aln rfl ?_
                          refine w_cv (st := []) rfl gm rfl (Nat.le_of_ble_eq_true rfl) (fun kk h => h) (r_nxtT (d := d + 3) hB s17 (by omega) (by omega) hqn (fun Ms18 s18 => ?_))
                          refine w_aln rfl ?_
                          refine w_iln rfl ?_
                          refine w_ic ?_
                          refine w_cmne (fun c19 => ?_) (fun c19 => ?_)
                          · skip
                            refine w_ic ?_
                            refine w_iln rfl ?_
                            refine w_ifne (fun c20 => ?_) (fun c20 => ?_)
                            · skip
                              refine w_iln rfl ?_
                              refine w_ic ?_
                              refine w_cmne (fun c21 => ?_) (fun c21 => ?_)
                              · exfalso; omega
                              · skip
                                refine w_sp ?_
                                refine w_goto ?_
                                have h22 := h.1 (by omega)
                                clear h
                                refine w_cv (st := []) rfl gm rfl (Nat.le_of_ble_eq_true rfl) (fun kk h => h) (r_X12_takes2 (d := d + 2) hB s18 (rv_y_le hB hqn) (sp_num.mono h22 (fun fk23 ak23 hfk23 Mk23 Fk23 => ?_) (fun bk23 ck23 ek23 hvk23 Mk23 sk23 => ?_)))
                                · skip
                                  refine w_ifne (fun c24 => ?_) (fun c24 => ?_)
                                  · exfalso; omega
                                  · skip
                                    refine w_ic ?_
                                    exact w_iret (fun _ => Or.inl rfl) (hfk23 _ Fk23)
                                · skip
                                  refine w_ifne (fun c25 => ?_) (fun c25 => ?_)
                                  · skip
                                    refine w_aln rfl ?_
                                    refine w_gr gm rfl (by decide) rfl ((congrFun (congrFun sk23.2.2.2.2.2.1 m) 7).trans r7) ?_
                                    refine w_ic ?_
                                    refine w_iln rfl ?_
                                    refine w_add ⟨by show (-2147483648 : Int) ≤ 2; omega, by show 2 < (2147483648 : Int); omega⟩ ?_
                                    refine w_aln rfl ?_
                                    refine w_gi gm rfl (by decide) rfl (sk23.1.2.2.2.2.2.1) ?_
                                    refine w_iast gha rfl (by decide) (by show (0 : Int) ≤ 2; omega) (by show 2 < ((221 : Nat) : Int); omega) ?_
                                    have s26 := sk23.hval1 (j := (2 : Int).toNat) (v := (T (rv_x T q)).2.2.1) hB.1 rfl
                                    refine w_ic ?_
                                    exact w_iret (fun _ => Or.inr rfl) (hvk23 (Nat.le_trans (Nat.le_refl q) (rv_y_ge hB hqn)) (rv_y_le hB hqn) ⟨by rw [show (rv_up (rv_up PL 13 1) 7 ((T (rv_x T q)).2.2.1)) 4 = PL 4 from (rv_up_n (by decide)).trans ((rv_up_n (by decide)))]; omega, by rw [show (rv_up (rv_up PL 13 1) 7 ((T (rv_x T q)).2.2.1)) 4 = PL 4 from (rv_up_n (by decide)).trans ((rv_up_n (by decide)))]; omega, by rw [show (rv_up (rv_up PL 13 1) 7 ((T (rv_x T q)).2.2.1)) 5 = PL 5 from (rv_up_n (by decide)).trans ((rv_up_n (by decide)))]; omega, by rw [show (rv_up (rv_up PL 13 1) 7 ((T (rv_x T q)).2.2.1)) 5 = PL 5 from (rv_up_n (by decide)).trans ((rv_up_n (by decide)))]; omega⟩ _ _ _ (rv_R.bb (show (rv_up (rv_up PL 13 1) 7 ((T (rv_x T q)).2.2.1)) 4 = PL 4 from (rv_up_n (by decide)).trans ((rv_up_n (by decide)))).symm s26))
                                  · exfalso; omega
                            · exfalso; omega
                          · exfalso; omega
                        · exfalso; omega
                      · skip
                        refine w_ic ?_
                        refine w_goto ?_
                        refine w_iret (fun _ => Or.inr rfl) ?_
                        refine w_ifeq (fun c27 => ?_) (fun c27 => ?_)
                        · exfalso; omega
                        · skip
                          refine w_aln rfl ?_
                          refine w_ic ?_
                          have h29 := h.2 (by omega)
                          clear h
                          refine w_cv (st := []) rfl gm rfl (Nat.le_of_ble_eq_true rfl) (fun kk h => h) (r_X12_bad2 (d := d + 4) hB hS (fun MF28 F28 => ?_))
                          exact w_iret (fun _ => Or.inl rfl) (h29 _ F28)
                    · exfalso; omega
                · exfalso; omega
              · exfalso; omega
            · exfalso; omega
          · exfalso; omega
        · exfalso; omega
      · exfalso; omega
    · exfalso; omega
  · exfalso; omega
set_option maxHeartbeats 4000000 in
theorem r_rR_9 {G : mj_G} {M0 M : mj_M} {B : Nat → Int} {n lim m bt ha hd ns rs sx : Nat} {T : Nat → Nat × Nat × Int × List Int × Nat} {PL WA OA : Nat → Int} {TO BI : Nat → Nat → Int} {nm : Nat → List Int} {g z r : Int} {Q : mj_P} {d q : Nat} (hB : rv_BT G M0 B n lim m bt ha hd ns rs sx T) (hS : rv_R M0 n lim m bt ha hd ns rs sx (T q) PL WA OA TO BI nm (PL 4) g z r M) (hqn : q ≤ n) (hb : rv_pb PL) (hk1 : (T q).1 = 1) (hj : rv_rs.getD 9 [] = (T q).2.2.2.1) (h : sp_patience T PL WA OA TO BI nm q (fun f a => ∀ M', rv_FR M0 m sx ha f a M' → Q (some (.inl 0)) G M') (fun PL WA OA TO BI nm q' => q ≤ q' → q' ≤ n → rv_pb PL → ∀ g z M', rv_R M0 n lim m bt ha hd ns rs sx (T (rv_x T q')) PL WA OA TO BI nm (PL 4) g z r M' → Q (some (.inl 1)) G M')) : mj_R mj_tab (d + 6) 237 [.inr (.inr (some m))] G M Q := by
  obtain ⟨⟨gm, gbt, gha, ghd, gns, grs, r1, r7, r23, r9, r10, rb, rr, n1, n2, gsx, r6⟩, hT⟩ := id hB
  obtain ⟨b1, b2, b3, b4⟩ := id hb
  unfold sp_patience at h
  have ho : rv_bt (M.1 m 20) 2 = PL 14 := hS.1.2.2.2.2.1 2 (by decide)
  refine ⟨Nat.le_of_ble_eq_true rfl, ?_⟩
  show wz (d + 5) mt_X12_row.2.2.2.2.1 Q mt_X12_row.2.2.2.2.1 [some (.inr (.inr (some m))), none] [] G M _ _
  refine w_aln rfl ?_
  refine w_l2 ?_
  refine w_cv (st := []) rfl gm rfl (Nat.le_of_ble_eq_true rfl) (fun kk h => h) (r_isWord0 (d := d + 4) (i := 0) hB hS hqn (by decide) (by decide +kernel) (fun e => absurd (rv_rs_i 0 (by decide) 9 (by decide) (e.2.trans hj.symm)) (by decide)) ?_)
  refine w_ifeq (fun c1 => ?_) (fun c1 => ?_)
  · skip
    refine w_aln rfl ?_
    refine w_l2 ?_
    refine w_cv (st := []) rfl gm rfl (Nat.le_of_ble_eq_true rfl) (fun kk h => h) (r_isWord0 (d := d + 4) (i := 1) hB hS hqn (by decide) (by decide +kernel) (fun e => absurd (rv_rs_i 1 (by decide) 9 (by decide) (e.2.trans hj.symm)) (by decide)) ?_)
    refine w_ifeq (fun c2 => ?_) (fun c2 => ?_)
    · skip
      refine w_aln rfl ?_
      refine w_l2 ?_
      refine w_cv (st := []) rfl gm rfl (Nat.le_of_ble_eq_true rfl) (fun kk h => h) (r_isWord0 (d := d + 4) (i := 2) hB hS hqn (by decide) (by decide +kernel) (fun e => absurd (rv_rs_i 2 (by decide) 9 (by decide) (e.2.trans hj.symm)) (by decide)) ?_)
      refine w_ifeq (fun c3 => ?_) (fun c3 => ?_)
      · skip
        refine w_aln rfl ?_
        refine w_l2 ?_
        refine w_cv (st := []) rfl gm rfl (Nat.le_of_ble_eq_true rfl) (fun kk h => h) (r_isWord0 (d := d + 4) (i := 3) hB hS hqn (by decide) (by decide +kernel) (fun e => absurd (rv_rs_i 3 (by decide) 9 (by decide) (e.2.trans hj.symm)) (by decide)) ?_)
        refine w_ifeq (fun c4 => ?_) (fun c4 => ?_)
        · skip
          refine w_aln rfl ?_
          refine w_l2 ?_
          refine w_cv (st := []) rfl gm rfl (Nat.le_of_ble_eq_true rfl) (fun kk h => h) (r_isWord0 (d := d + 4) (i := 4) hB hS hqn (by decide) (by decide +kernel) (fun e => absurd (rv_rs_i 4 (by decide) 9 (by decide) (e.2.trans hj.symm)) (by decide)) ?_)
          refine w_ifeq (fun c5 => ?_) (fun c5 => ?_)
          · skip
            refine w_aln rfl ?_
            refine w_l2 ?_
            refine w_cv (st := []) rfl gm rfl (Nat.le_of_ble_eq_true rfl) (fun kk h => h) (r_isWord0 (d := d + 4) (i := 5) hB hS hqn (by decide) (by decide +kernel) (fun e => absurd (rv_rs_i 5 (by decide) 9 (by decide) (e.2.trans hj.symm)) (by decide)) ?_)
            refine w_ifeq (fun c6 => ?_) (fun c6 => ?_)
            · skip
              refine w_aln rfl ?_
              refine w_l2 ?_
              refine w_cv (st := []) rfl gm rfl (Nat.le_of_ble_eq_true rfl) (fun kk h => h) (r_isWord0 (d := d + 4) (i := 6) hB hS hqn (by decide) (by decide +kernel) (fun e => absurd (rv_rs_i 6 (by decide) 9 (by decide) (e.2.trans hj.symm)) (by decide)) ?_)
              refine w_ifeq (fun c7 => ?_) (fun c7 => ?_)
              · skip
                refine w_aln rfl ?_
                refine w_l2 ?_
                refine w_cv (st := []) rfl gm rfl (Nat.le_of_ble_eq_true rfl) (fun kk h => h) (r_isWord0 (d := d + 4) (i := 7) hB hS hqn (by decide) (by decide +kernel) (fun e => absurd (rv_rs_i 7 (by decide) 9 (by decide) (e.2.trans hj.symm)) (by decide)) ?_)
                refine w_ifeq (fun c8 => ?_) (fun c8 => ?_)
                · skip
                  refine w_aln rfl ?_
                  refine w_l2 ?_
                  refine w_cv (st := []) rfl gm rfl (Nat.le_of_ble_eq_true rfl) (fun kk h => h) (r_isWord0 (d := d + 4) (i := 8) hB hS hqn (by decide) (by decide +kernel) (fun e => absurd (rv_rs_i 8 (by decide) 9 (by decide) (e.2.trans hj.symm)) (by decide)) ?_)
                  refine w_ifeq (fun c9 => ?_) (fun c9 => ?_)
                  · skip
                    refine w_aln rfl ?_
                    refine w_l2 ?_
                    refine w_cv (st := []) rfl gm rfl (Nat.le_of_ble_eq_true rfl) (fun kk h => h) (r_isWord1 (d := d + 4) (i := 9) hB hS hqn (by decide) (by decide +kernel) ⟨hk1, hj⟩ ?_)
                    refine w_ifeq (fun c10 => ?_) (fun c10 => ?_)
                    · exfalso; omega
                    · skip
                      refine w_ic ?_
                      refine w_goto ?_
                      refine w_isn ?_
                      show wz _ _ _ _ [some (.inr (.inr (some m))), some (.inl 2)] _ _ _ _ _
                      refine w_iln rfl ?_
                      refine w_ifge (fun c11 => ?_) (fun c11 => ?_)
                      · skip
                        refine w_aln rfl ?_
                        refine w_gi gm rfl (by decide) rfl (rfl) ?_
                        refine w_iln rfl ?_
                        refine w_cs (st := []) rfl (Nat.le_of_ble_eq_true rfl) (fun kk h => h) ⟨Nat.le_of_ble_eq_true rfl, ?_⟩
                        show wz (d + 4) mt_X12_bitOf.2.2.2.2.1 _ mt_X12_bitOf.2.2.2.2.1 [some (.inl (M.1 m 20)), some (.inl 2)] [] _ _ _ _
                        refine w_iln rfl ?_
                        refine w_iln rfl ?_
                        refine w_shr ?_
                        intro z12 hz12 ez12
                        refine w_ic ?_
                        refine w_and ?_
                        intro z13 hz13 ez13
                        obtain rfl : z13 = rv_bt (M.1 m 20) 2 := by rw [ez13, ez12]; rfl
                        have hz13 := rv_bt_01 (M.1 m 20) 2
                        refine w_ic ?_
                        refine w_cmne (fun c14 => ?_) (fun c14 => ?_)
                        · skip
                          refine w_ic ?_
                          refine w_iret (fun _ => Or.inl rfl) ?_
                          refine w_ifeq (fun c15 => ?_) (fun c15 => ?_)
                          · skip
                            refine w_aln rfl ?_
                            refine w_dupr ?_
                            refine w_gi gm rfl (by decide) rfl (rfl) ?_
                            refine w_ic ?_
                            refine w_iln rfl ?_
                            refine w_shl ?_
                            intro z16 hz16 ez16
                            refine w_or ?_
                            intro z17 hz17 ez17
                            obtain rfl : z17 = rv_bs (M.1 m 20) 2 := by rw [ez17, ez16]; rfl
                            refine w_pi gm rfl (by decide) rfl (fun q => by cases q) ?_
                            have s18 := hS.sonce (k := 2) hB.1 (by decide)
                            refine w_aln rfl ?_
                            refine w_cv (st := []) rfl gm rfl (Nat.le_of_ble_eq_true rfl) (fun kk h => h) (r_nxtT (d := d + 3) hB s18 (by omega) (by omega) hqn (fun Ms19 s19 => ?_))
                            refine w_aln rfl ?_
                            refine w_iln rfl ?_
                            refine w_ic ?_
                            refine w_cmne (fun c20 => ?_) (fun c20 => ?_)
                            · exfalso; omega
                            · skip
                              refine w_ic ?_
                              refine w_goto ?_
                              refine w_iln rfl ?_
                              refine w_ifne (fun c21 => ?_) (fun c21 => ?_)
                              · skip
                                refine w_iln rfl ?_
                                refine w_ic ?_
                                refine w_cmne (fun c22 => ?_) (fun c22 => ?_)
                                · skip
                                  refine w_bp ?_
                                  have h23 := h.1 (by omega)
                                  clear h
                                  refine w_cv (st := []) rfl gm rfl (Nat.le_of_ble_eq_true rfl) (fun kk h => h) (r_X12_takes2 (d := d + 2) hB s19 (rv_y_le hB hqn) (sp_num.mono h23 (fun fk24 ak24 hfk24 Mk24 Fk24 => ?_) (fun bk24 ck24 ek24 hvk24 Mk24 sk24 => ?_)))
                                  · skip
                                    refine w_ifne (fun c25 => ?_) (fun c25 => ?_)
                                    · exfalso; omega
                                    · skip
                                      refine w_ic ?_
                                      exact w_iret (fun _ => Or.inl rfl) (hfk24 _ Fk24)
                                  · skip
                                    refine w_ifne (fun c26 => ?_) (fun c26 => ?_)
                                    · skip
                                      refine w_aln rfl ?_
                                      refine w_gr gm rfl (by decide) rfl ((congrFun (congrFun sk24.2.2.2.2.2.1 m) 7).trans r7) ?_
                                      refine w_ic ?_
                                      refine w_iln rfl ?_
                                      refine w_add ⟨by show (-2147483648 : Int) ≤ 3; omega, by show 3 < (2147483648 : Int); omega⟩ ?_
                                      refine w_aln rfl ?_
                                      refine w_gi gm rfl (by decide) rfl (sk24.1.2.2.2.2.2.1) ?_
                                      refine w_iast gha rfl (by decide) (by show (0 : Int) ≤ 3; omega) (by show 3 < ((221 : Nat) : Int); omega) ?_
                                      have s27 := sk24.hval2 (j := (3 : Int).toNat) (v := (T (rv_x T q)).2.2.1) hB.1 rfl
                                      refine w_ic ?_
                                      exact w_iret (fun _ => Or.inr rfl) (hvk24 (Nat.le_trans (Nat.le_refl q) (rv_y_ge hB hqn)) (rv_y_le hB hqn) ⟨by rw [show (rv_up (rv_up PL 14 1) 8 ((T (rv_x T q)).2.2.1)) 4 = PL 4 from (rv_up_n (by decide)).trans ((rv_up_n (by decide)))]; omega, by rw [show (rv_up (rv_up PL 14 1) 8 ((T (rv_x T q)).2.2.1)) 4 = PL 4 from (rv_up_n (by decide)).trans ((rv_up_n (by decide)))]; omega, by rw [show (rv_up (rv_up PL 14 1) 8 ((T (rv_x T q)).2.2.1)) 5 = PL 5 from (rv_up_n (by decide)).trans ((rv_up_n (by decide)))]; omega, by rw [show (rv_up (rv_up PL 14 1) 8 ((T (rv_x T q)).2.2.1)) 5 = PL 5 from (rv_up_n (by decide)).trans ((rv_up_n (by decide)))]; omega⟩ _ _ _ (rv_R.bb (show (rv_up (rv_up PL 14 1) 8 ((T (rv_x T q)).2.2.1)) 4 = PL 4 from (rv_up_n (by decide)).trans ((rv_up_n (by decide)))).symm s27))
                                    · exfalso; omega
                                · exfalso; omega
                              · exfalso; omega
                          · exfalso; omega
                        · skip
                          refine w_ic ?_
                          refine w_goto ?_
                          refine w_iret (fun _ => Or.inr rfl) ?_
                          refine w_ifeq (fun c28 => ?_) (fun c28 => ?_)
                          · exfalso; omega
                          · skip
                            refine w_aln rfl ?_
                            refine w_ic ?_
                            have h30 := h.2 (by omega)
                            clear h
                            refine w_cv (st := []) rfl gm rfl (Nat.le_of_ble_eq_true rfl) (fun kk h => h) (r_X12_bad2 (d := d + 4) hB hS (fun MF29 F29 => ?_))
                            exact w_iret (fun _ => Or.inl rfl) (h30 _ F29)
                      · exfalso; omega
                  · exfalso; omega
                · exfalso; omega
              · exfalso; omega
            · exfalso; omega
          · exfalso; omega
        · exfalso; omega
      · exfalso; omega
    · exfalso; omega
  · exfalso; omega
set_option maxHeartbeats 4000000 in
theorem r_rR_n {G : mj_G} {M0 M : mj_M} {B : Nat → Int} {n lim m bt ha hd ns rs sx : Nat} {T : Nat → Nat × Nat × Int × List Int × Nat} {PL WA OA : Nat → Int} {TO BI : Nat → Nat → Int} {nm : Nat → List Int} {g z r : Int} {Q : mj_P} {d q : Nat} (hB : rv_BT G M0 B n lim m bt ha hd ns rs sx T) (hS : rv_R M0 n lim m bt ha hd ns rs sx (T q) PL WA OA TO BI nm (PL 4) g z r M) (hqn : q ≤ n) (hb : rv_pb PL) (hnw : ∀ i, i < 10 → ¬ ((T q).1 = 1 ∧ rv_rs.getD i [] = (T q).2.2.2.1)) (h : ∀ M', rv_FR M0 m sx ha 1 (T q).2.1 M' → Q (some (.inl 0)) G M') : mj_R mj_tab (d + 6) 237 [.inr (.inr (some m))] G M Q := by
  obtain ⟨⟨gm, gbt, gha, ghd, gns, grs, r1, r7, r23, r9, r10, rb, rr, n1, n2, gsx, r6⟩, hT⟩ := id hB
  obtain ⟨b1, b2, b3, b4⟩ := id hb
  refine ⟨Nat.le_of_ble_eq_true rfl, ?_⟩
  show wz (d + 5) mt_X12_row.2.2.2.2.1 Q mt_X12_row.2.2.2.2.1 [some (.inr (.inr (some m))), none] [] G M _ _
  refine w_aln rfl ?_
  refine w_l2 ?_
  refine w_cv (st := []) rfl gm rfl (Nat.le_of_ble_eq_true rfl) (fun kk h => h) (r_isWord0 (d := d + 4) (i := 0) hB hS hqn (by decide) (by decide +kernel) (hnw 0 (by decide)) ?_)
  refine w_ifeq (fun c1 => ?_) (fun c1 => ?_)
  · skip
    refine w_aln rfl ?_
    refine w_l2 ?_
    refine w_cv (st := []) rfl gm rfl (Nat.le_of_ble_eq_true rfl) (fun kk h => h) (r_isWord0 (d := d + 4) (i := 1) hB hS hqn (by decide) (by decide +kernel) (hnw 1 (by decide)) ?_)
    refine w_ifeq (fun c2 => ?_) (fun c2 => ?_)
    · skip
      refine w_aln rfl ?_
      refine w_l2 ?_
      refine w_cv (st := []) rfl gm rfl (Nat.le_of_ble_eq_true rfl) (fun kk h => h) (r_isWord0 (d := d + 4) (i := 2) hB hS hqn (by decide) (by decide +kernel) (hnw 2 (by decide)) ?_)
      refine w_ifeq (fun c3 => ?_) (fun c3 => ?_)
      · skip
        refine w_aln rfl ?_
        refine w_l2 ?_
        refine w_cv (st := []) rfl gm rfl (Nat.le_of_ble_eq_true rfl) (fun kk h => h) (r_isWord0 (d := d + 4) (i := 3) hB hS hqn (by decide) (by decide +kernel) (hnw 3 (by decide)) ?_)
        refine w_ifeq (fun c4 => ?_) (fun c4 => ?_)
        · skip
          refine w_aln rfl ?_
          refine w_l2 ?_
          refine w_cv (st := []) rfl gm rfl (Nat.le_of_ble_eq_true rfl) (fun kk h => h) (r_isWord0 (d := d + 4) (i := 4) hB hS hqn (by decide) (by decide +kernel) (hnw 4 (by decide)) ?_)
          refine w_ifeq (fun c5 => ?_) (fun c5 => ?_)
          · skip
            refine w_aln rfl ?_
            refine w_l2 ?_
            refine w_cv (st := []) rfl gm rfl (Nat.le_of_ble_eq_true rfl) (fun kk h => h) (r_isWord0 (d := d + 4) (i := 5) hB hS hqn (by decide) (by decide +kernel) (hnw 5 (by decide)) ?_)
            refine w_ifeq (fun c6 => ?_) (fun c6 => ?_)
            · skip
              refine w_aln rfl ?_
              refine w_l2 ?_
              refine w_cv (st := []) rfl gm rfl (Nat.le_of_ble_eq_true rfl) (fun kk h => h) (r_isWord0 (d := d + 4) (i := 6) hB hS hqn (by decide) (by decide +kernel) (hnw 6 (by decide)) ?_)
              refine w_ifeq (fun c7 => ?_) (fun c7 => ?_)
              · skip
                refine w_aln rfl ?_
                refine w_l2 ?_
                refine w_cv (st := []) rfl gm rfl (Nat.le_of_ble_eq_true rfl) (fun kk h => h) (r_isWord0 (d := d + 4) (i := 7) hB hS hqn (by decide) (by decide +kernel) (hnw 7 (by decide)) ?_)
                refine w_ifeq (fun c8 => ?_) (fun c8 => ?_)
                · skip
                  refine w_aln rfl ?_
                  refine w_l2 ?_
                  refine w_cv (st := []) rfl gm rfl (Nat.le_of_ble_eq_true rfl) (fun kk h => h) (r_isWord0 (d := d + 4) (i := 8) hB hS hqn (by decide) (by decide +kernel) (hnw 8 (by decide)) ?_)
                  refine w_ifeq (fun c9 => ?_) (fun c9 => ?_)
                  · skip
                    refine w_aln rfl ?_
                    refine w_l2 ?_
                    refine w_cv (st := []) rfl gm rfl (Nat.le_of_ble_eq_true rfl) (fun kk h => h) (r_isWord0 (d := d + 4) (i := 9) hB hS hqn (by decide) (by decide +kernel) (hnw 9 (by decide)) ?_)
                    refine w_ifeq (fun c10 => ?_) (fun c10 => ?_)
                    · skip
                      refine w_ic ?_
                      refine w_isn ?_
                      show wz _ _ _ _ [some (.inr (.inr (some m))), some (.inl (-1))] _ _ _ _ _
                      refine w_iln rfl ?_
                      refine w_ifge (fun c11 => ?_) (fun c11 => ?_)
                      · exfalso; omega
                      · skip
                        refine w_aln rfl ?_
                        refine w_ic ?_
                        refine w_cv (st := []) rfl gm rfl (Nat.le_of_ble_eq_true rfl) (fun kk h => h) (r_X12_bad2 (d := d + 4) hB hS (fun MF12 F12 => ?_))
                        exact w_iret (fun _ => Or.inl rfl) (h _ F12)
                    · exfalso; omega
                  · exfalso; omega
                · exfalso; omega
              · exfalso; omega
            · exfalso; omega
          · exfalso; omega
        · exfalso; omega
      · exfalso; omega
    · exfalso; omega
  · exfalso; omega
theorem r_X12_row2 {G : mj_G} {M0 M : mj_M} {B : Nat → Int} {n lim m bt ha hd ns rs sx : Nat} {T : Nat → Nat × Nat × Int × List Int × Nat} {PL WA OA : Nat → Int} {TO BI : Nat → Nat → Int} {nm : Nat → List Int} {g z r : Int} {Q : mj_P} {d q : Nat} (hB : rv_BT G M0 B n lim m bt ha hd ns rs sx T) (hS : rv_R M0 n lim m bt ha hd ns rs sx (T q) PL WA OA TO BI nm (PL 4) g z r M) (hqn : q ≤ n) (hb : rv_pb PL) (h : sp_row T PL WA OA TO BI nm q (fun f a => ∀ M', rv_FR M0 m sx ha f a M' → Q (some (.inl 0)) G M') (fun PL WA OA TO BI nm q' => q ≤ q' → q' ≤ n → rv_pb PL → ∀ g z M', rv_R M0 n lim m bt ha hd ns rs sx (T (rv_x T q')) PL WA OA TO BI nm (PL 4) g z r M' → Q (some (.inl 1)) G M')) : mj_R mj_tab (d + 6) 237 [.inr (.inr (some m))] G M Q := by
  by_cases c1 : (T q).1 = 1
  · by_cases c2 : rv_nam (T q).2.2.2.1
    · exact r_rR_n hB hS hqn hb (fun i hi g => c2 i (by omega) g.2) (h.2 (fun g => g.2 c2))
    · have : ∃ j, j < 24 ∧ rv_rs.getD j [] = (T q).2.2.2.1 := by
        refine Classical.byContradiction (fun g => c2 (fun j hj e => g ⟨j, hj, e⟩))
      obtain ⟨j, j1, hj⟩ := this
      obtain ⟨h0, h1, h2, h3, h4, h5, h6, h7, h8, h9, h10⟩ := h.1 j j1 c1 hj
      rcases Nat.lt_or_ge j 10 with q1 | q1
      · have hjj : j = 0 ∨ j = 1 ∨ j = 2 ∨ j = 3 ∨ j = 4 ∨ j = 5 ∨ j = 6 ∨ j = 7 ∨ j = 8 ∨ j = 9 := by omega
        rcases hjj with rfl | rfl | rfl | rfl | rfl | rfl | rfl | rfl | rfl | rfl
        · exact r_rR_0 hB hS hqn hb c1 hj (h0 rfl)
        · exact r_rR_1 hB hS hqn hb c1 hj (h1 rfl)
        · exact r_rR_2 hB hS hqn hb c1 hj (h2 rfl)
        · exact r_rR_3 hB hS hqn hb c1 hj (h3 rfl)
        · exact r_rR_4 hB hS hqn hb c1 hj (h4 rfl)
        · exact r_rR_5 hB hS hqn hb c1 hj (h5 rfl)
        · exact r_rR_6 hB hS hqn hb c1 hj (h6 rfl)
        · exact r_rR_7 hB hS hqn hb c1 hj (h7 rfl)
        · exact r_rR_8 hB hS hqn hb c1 hj (h8 rfl)
        · exact r_rR_9 hB hS hqn hb c1 hj (h9 rfl)
      · exact r_rR_n hB hS hqn hb (fun i hi g => by have := rv_rs_i i (by omega) j j1 (g.2.trans hj.symm); omega) (h10 q1)
  · exact r_rR_n hB hS hqn hb (fun i hi g => c1 g.1) (h.2 (fun g => c1 g.1))
end
section
/-! ===== the reference's plain (laid by a program) ===== -/
theorem rv_bt_00 (k j : Nat) (hk : k < 32) (hj : j < 32) : rv_bt 0 (k : Int) = rv_bt 0 (j : Int) := by
  have h : ∀ i : Fin 32, rv_bt 0 (i.val : Int) = 0 := by decide +kernel
  rw [h ⟨k, hk⟩, h ⟨j, hj⟩]
def rv_R0 (M0 : mj_M) (n lim m bt ha hd ns rs sx : Nat) (q : Nat) (PL WA OA : Nat → Int) (TO BI : Nat → Nat → Int) (nm : Nat → List Int) (b g z r : Int) (M : mj_M) : Prop :=
  (M.1 m 3 = (n : Int) ∧ M.1 m 5 = (lim : Int) ∧ M.1 m 21 = PL 5 ∧ M.1 m 22 = PL 11 ∧ (∀ k : Nat, k < 3 → rv_bt (M.1 m 20) (k : Int) = PL (12 + k)) ∧ M.1 m 18 = g ∧ M.1 m 24 = z ∧ M.1 m 19 = r) ∧ M.1 m 4 = (q : Int) ∧ rv_H (M.1 ha) PL WA TO BI ∧ (∀ s k : Nat, s < 4 → k < 8 → rv_bt (M.1 hd s) (k : Int) = rv_bt (OA k) ((s + 4 : Nat) : Int)) ∧ (∀ k : Nat, (k : Int) < b → M.2.1 ns (8 + k) = rv_8 (nm k) ∧ rv_wo (nm k)) ∧ M.2.2 = M0.2.2 ∧ M.2.1 rs = M0.2.1 rs ∧ M.1 bt = M0.1 bt ∧ rv_sw M0 sx m ha M
theorem r_nxt0 {G : mj_G} {M0 M : mj_M} {B : Nat → Int} {n lim m bt ha hd ns rs sx : Nat} {PL WA OA : Nat → Int} {TO BI : Nat → Nat → Int} {nm : Nat → List Int} {b g z r : Int} {d q : Nat} {Q : mj_P} (hB : rv_B G M0 B n lim m bt ha hd ns rs sx) (h : rv_R0 M0 n lim m bt ha hd ns rs sx q PL WA OA TO BI nm b g z r M) (hq : q ≤ n) (hQ : ∀ M', rv_R M0 n lim m bt ha hd ns rs sx (rv_T B n lim q) PL WA OA TO BI nm b g z r M' → Q none G M') : mj_R mj_tab (d + 2) 216 [.inr (.inr (some m))] G M Q := by
  obtain ⟨gm, gbt, gha, ghd, gns, grs, r1, r7, r23, r9, r10, rb, rr, n1, n2, gsx, r6⟩ := hB
  obtain ⟨⟨h3, h5, h21, h22, h20, h18, h24, h19⟩, ht, hh, hd1, hn, e1, e2, e3, e4⟩ := h
  refine r_X12_next (d := d) (B := B) (n := n) (lim := lim) (p := q) gm gbt n1 (by rw [e1]; exact r1) h3 h5 ht (fun k => by rw [e3]; exact rb k) (fun M' hM => hQ M' ?_)
  obtain ⟨o1, o2, o3, -⟩ := id hM
  have oc : ∀ a, a ≠ m → M'.1 a = M.1 a := fun a ha => funext fun k => o1 a k (fun e => ha e.1)
  have om : ∀ k, ¬ k ∈ [4, 11, 12, 13, 14] → M'.1 m k = M.1 m k := fun k hk => o1 m k (fun e => hk e.2)
  have ol : ∀ a, a ≠ m → M'.2.1 a = M.2.1 a := fun a ha => funext fun k => o2 a k (fun e => ha e.1)
  refine ⟨⟨(om 3 (by decide)).trans h3, (om 5 (by decide)).trans h5, (om 21 (by decide)).trans h21, (om 22 (by decide)).trans h22, fun k hk => by rw [om 20 (by decide)]; exact h20 k hk, (om 18 (by decide)).trans h18, (om 24 (by decide)).trans h24, (om 19 (by decide)).trans h19⟩, rv_tq_of (rv_T_w hq).1 (rv_nx_T hq hM), by rw [oc ha (hn_ne gha gm (by decide))]; exact hh, fun s k a c => by rw [oc hd (hn_ne ghd gm (by decide))]; exact hd1 s k a c, fun k hk => ⟨(congrFun (ol ns (hn_ne gns gm (by decide))) _).trans (hn k hk).1, (hn k hk).2⟩, o3.trans e1, (ol rs (hn_ne grs gm (by decide))).trans e2, (oc bt (hn_ne gbt gm (by decide))).trans e3, e4.c oc om (hn_ne gsx gm (by decide)) (hn_ne gha gm (by decide))⟩
theorem r_zhd {G : mj_G} {M0 : mj_M} {m hd : Nat} {d : Nat} {Q : mj_P} (gm : G m = (1012, 0)) (gc : G hd = (56100, 4)) (e0 : M0.2.2 m 23 = some hd) : ∀ (f k : Nat) (M : mj_M) (cb sb : Nat), k + f = 4 → M.2 = M0.2 → (∀ a, a ≠ hd → M.1 a = M0.1 a) → (∀ j, j < k → M.1 hd j = 0) → (∀ M', M'.2 = M0.2 → (∀ a, a ≠ hd → M'.1 a = M0.1 a) → (∀ j, j < 4 → M'.1 hd j = 0) → wz d mt_X12_plain.2.2.2.2.1 Q (mt_X12_plain.2.2.2.2.1.drop 33) [some (.inr (.inr (some m))), some (.inl 4)] [] G M' cb sb) → wz d mt_X12_plain.2.2.2.2.1 Q (mt_X12_plain.2.2.2.2.1.drop 23) [some (.inr (.inr (some m))), some (.inl (k : Int))] [] G M cb sb := by
  intro f
  induction f with
  | zero =>
    intro k M cb sb hk h2 h1 hz kk
    have e : k = 4 := by omega
    subst e
    refine w_iln rfl ?_
    refine w_ic ?_
    refine w_cmge (fun c => ?_) (fun c => by exfalso; omega)
    exact kk M h2 h1 hz
  | succ f ih =>
    intro k M cb sb hk h2 h1 hz kk
    refine w_iln rfl ?_
    refine w_ic ?_
    refine w_cmge (fun c => by exfalso; omega) (fun c => ?_)
    refine w_aln rfl ?_
    refine w_gr gm rfl (by decide) rfl (by rw [h2]; exact e0) ?_
    refine w_iln rfl ?_
    refine w_ic ?_
    refine w_iast gc rfl (by decide) (by omega) (by show (k : Int) < ((4 : Nat) : Int); omega) ?_
    refine w_ii rfl ⟨by omega, by omega⟩ ?_
    refine w_goto ?_
    refine ih (k + 1) _ _ _ (by omega) h2 (fun a a1 => (wz_c a1).trans (h1 a a1)) (fun j hj => ?_) kk
    rw [show ((k : Int)).toNat = k by omega]
    rcases Nat.lt_or_ge j k with q | q
    · exact (hn_n (Or.inr (by omega))).trans (hz j q)
    · rw [show j = k by omega]; exact hn_s
theorem r_zha {G : mj_G} {M0 : mj_M} {m ha : Nat} {d : Nat} {Q : mj_P} (gm : G m = (1012, 0)) (gc : G ha = (52100, 221)) (e0 : M0.2.2 m 7 = some ha) : ∀ (f k : Nat) (M : mj_M) (cb sb : Nat), k + f = 221 → M.2 = M0.2 → (∀ a, a ≠ ha → M.1 a = M0.1 a) → (∀ j, j < k → M.1 ha j = 0) → (∀ M', M'.2 = M0.2 → (∀ a, a ≠ ha → M'.1 a = M0.1 a) → (∀ j, j < 221 → M'.1 ha j = 0) → wz d mt_X12_plain.2.2.2.2.1 Q (mt_X12_plain.2.2.2.2.1.drop 45) [some (.inr (.inr (some m))), some (.inl 221)] [] G M' cb sb) → wz d mt_X12_plain.2.2.2.2.1 Q (mt_X12_plain.2.2.2.2.1.drop 35) [some (.inr (.inr (some m))), some (.inl (k : Int))] [] G M cb sb := by
  intro f
  induction f with
  | zero =>
    intro k M cb sb hk h2 h1 hz kk
    have e : k = 221 := by omega
    subst e
    refine w_iln rfl ?_
    refine w_sp ?_
    refine w_cmge (fun c => ?_) (fun c => by exfalso; omega)
    exact kk M h2 h1 hz
  | succ f ih =>
    intro k M cb sb hk h2 h1 hz kk
    refine w_iln rfl ?_
    refine w_sp ?_
    refine w_cmge (fun c => by exfalso; omega) (fun c => ?_)
    refine w_aln rfl ?_
    refine w_gr gm rfl (by decide) rfl (by rw [h2]; exact e0) ?_
    refine w_iln rfl ?_
    refine w_ic ?_
    refine w_iast gc rfl (by decide) (by omega) (by show (k : Int) < ((221 : Nat) : Int); omega) ?_
    refine w_ii rfl ⟨by omega, by omega⟩ ?_
    refine w_goto ?_
    refine ih (k + 1) _ _ _ (by omega) h2 (fun a a1 => (wz_c a1).trans (h1 a a1)) (fun j hj => ?_) kk
    rw [show ((k : Int)).toNat = k by omega]
    rcases Nat.lt_or_ge j k with q | q
    · exact (hn_n (Or.inr (by omega))).trans (hz j q)
    · rw [show j = k by omega]; exact hn_s
theorem rv_H.cg {H H' PL WA : Nat → Int} {TO BI : Nat → Nat → Int} (h : rv_H H PL WA TO BI) (e : ∀ k, k < 221 → H' k = H k) : rv_H H' PL WA TO BI := by
  obtain ⟨a0, a1, a2, a3, a4, a5, a6⟩ := h
  exact ⟨(e 0 (by decide)).trans a0, (e 1 (by decide)).trans a1, (e 2 (by decide)).trans a2, (e 3 (by decide)).trans a3, fun t w ht hw => (e _ (by omega)).trans (a4 t w ht hw), fun w hw => (e _ (by omega)).trans (a5 w hw), fun t w ht hw => ⟨(e _ (by omega)).trans (a6 t w ht hw).1, (a6 t w ht hw).2⟩⟩
theorem r_cps {G : mj_G} {M0 : mj_M} {m ha sx : Nat} {d : Nat} {Q : mj_P} (gm : G m = (1012, 0)) (gh : G ha = (52100, 221)) (gs : G sx = (51100, 537)) (e6 : M0.2.2 m 6 = some sx) (e7 : M0.2.2 m 7 = some ha) : ∀ (f k : Nat) (M : mj_M) (cb sb : Nat), k + f = 537 → M.2 = M0.2 → (∀ a, a ≠ sx → M.1 a = M0.1 a) → (∀ j, j < k → j < 221 → M.1 sx j = M0.1 ha j) → (∀ j, j < k → 221 ≤ j → M.1 sx j = 0) → (∀ M', M'.2 = M0.2 → (∀ a, a ≠ sx → M'.1 a = M0.1 a) → (∀ j, j < 221 → M'.1 sx j = M0.1 ha j) → (∀ j, j < 537 → 221 ≤ j → M'.1 sx j = 0) → wz d mt_X12_plain.2.2.2.2.1 Q (mt_X12_plain.2.2.2.2.1.drop 94) [some (.inr (.inr (some m))), some (.inl 537)] [] G M' cb sb) → wz d mt_X12_plain.2.2.2.2.1 Q (mt_X12_plain.2.2.2.2.1.drop 76) [some (.inr (.inr (some m))), some (.inl (k : Int))] [] G M cb sb := by
  have ns : ha ≠ sx := hn_ne gh gs (by decide)
  intro f
  induction f with
  | zero =>
    intro k M cb sb hk h2 h1 h3 h4 kk
    have e : k = 537 := by omega
    subst e
    refine w_iln rfl ?_
    refine w_sp ?_
    refine w_cmge (fun c => ?_) (fun c => by exfalso; omega)
    exact kk M h2 h1 (fun j hj => h3 j (by omega) hj) h4
  | succ f ih =>
    intro k M cb sb hk h2 h1 h3 h4 kk
    refine w_iln rfl ?_
    refine w_sp ?_
    refine w_cmge (fun c => by exfalso; omega) (fun c => ?_)
    refine w_aln rfl ?_
    refine w_gr gm rfl (by decide) rfl (by rw [h2]; exact e6) ?_
    refine w_iln rfl ?_
    refine w_iln rfl ?_
    refine w_sp ?_
    have tk : ((k : Int)).toNat = k := by omega
    refine w_cmge (fun c2 => ?_) (fun c2 => ?_)
    · refine w_ic ?_
      refine w_iast gs rfl (by decide) (by omega) (by show (k : Int) < ((537 : Nat) : Int); omega) ?_
      refine w_ii rfl ⟨by omega, by omega⟩ ?_
      refine w_goto ?_
      rw [tk]
      refine ih (k + 1) _ _ _ (by omega) h2 (fun a a1 => (wz_c a1).trans (h1 a a1)) (fun j hj h => (hn_n (Or.inr (by omega))).trans (h3 j (by omega) h)) (fun j hj h => ?_) kk
      rcases Nat.lt_or_ge j k with q | q
      · exact (hn_n (Or.inr (by omega))).trans (h4 j q h)
      · rw [show j = k by omega]; exact hn_s
    · refine w_aln rfl ?_
      refine w_gr gm rfl (by decide) rfl (by rw [h2]; exact e7) ?_
      refine w_iln rfl ?_
      refine w_iald (v := M0.1 ha k) gh rfl (by omega) (by show (k : Int) < ((221 : Nat) : Int); omega) (by rw [tk, h1 ha ns]) ?_
      refine w_goto ?_
      refine w_iast gs rfl (by decide) (by omega) (by show (k : Int) < ((537 : Nat) : Int); omega) ?_
      refine w_ii rfl ⟨by omega, by omega⟩ ?_
      refine w_goto ?_
      rw [tk]
      refine ih (k + 1) _ _ _ (by omega) h2 (fun a a1 => (wz_c a1).trans (h1 a a1)) (fun j hj h => ?_) (fun j hj h => (hn_n (Or.inr (by omega))).trans (h4 j (by omega) h)) kk
      rcases Nat.lt_or_ge j k with q | q
      · exact (hn_n (Or.inr (by omega))).trans (h3 j q h)
      · rw [show j = k by omega]; exact hn_s
theorem r_cpn {G : mj_G} {M0 : mj_M} {m ns : Nat} {d : Nat} {Q : mj_P} (gm : G m = (1012, 0)) (gn : G ns = (54103, 16)) (e9 : M0.2.2 m 9 = some ns) : ∀ (f k : Nat) (M : mj_M) (cb sb : Nat), k + f = 8 → M.1 = M0.1 → M.2.2 = M0.2.2 → (∀ a, a ≠ ns → M.2.1 a = M0.2.1 a) → (∀ j, j < k → M.2.1 ns j = M0.2.1 ns (8 + j)) → (∀ j, 8 ≤ j → M.2.1 ns j = M0.2.1 ns j) → (∀ M', M'.1 = M0.1 → M'.2.2 = M0.2.2 → (∀ a, a ≠ ns → M'.2.1 a = M0.2.1 a) → (∀ j, j < 8 → M'.2.1 ns j = M0.2.1 ns (8 + j)) → wz d mt_X12_plain.2.2.2.2.1 Q (mt_X12_plain.2.2.2.2.1.drop 111) [some (.inr (.inr (some m))), some (.inl 8)] [] G M' cb sb) → wz d mt_X12_plain.2.2.2.2.1 Q (mt_X12_plain.2.2.2.2.1.drop 96) [some (.inr (.inr (some m))), some (.inl (k : Int))] [] G M cb sb := by
  intro f
  induction f with
  | zero =>
    intro k M cb sb hk h1 h2 h3 h4 h5 kk
    have e : k = 8 := by omega
    subst e
    refine w_iln rfl ?_
    refine w_bp ?_
    refine w_cmge (fun c => ?_) (fun c => by exfalso; omega)
    exact kk M h1 h2 h3 h4
  | succ f ih =>
    intro k M cb sb hk h1 h2 h3 h4 h5 kk
    have tk : ((k : Int)).toNat = k := by omega
    refine w_iln rfl ?_
    refine w_bp ?_
    refine w_cmge (fun c => by exfalso; omega) (fun c => ?_)
    refine w_aln rfl ?_
    refine w_gr gm rfl (by decide) rfl (by rw [h2]; exact e9) ?_
    refine w_iln rfl ?_
    refine w_aln rfl ?_
    refine w_gr gm rfl (by decide) rfl (by rw [h2]; exact e9) ?_
    refine w_bp ?_
    refine w_iln rfl ?_
    refine w_add ⟨by omega, by omega⟩ ?_
    refine w_lald (v := M0.2.1 ns (8 + k)) gn rfl (by omega) (by show (8 : Int) + (k : Int) < ((16 : Nat) : Int); omega) (by rw [show ((8 : Int) + (k : Int)).toNat = 8 + k by omega]; exact h5 _ (by omega)) ?_
    refine w_last gn rfl (by decide) (by omega) (by show (k : Int) < ((16 : Nat) : Int); omega) ?_
    refine w_ii rfl ⟨by omega, by omega⟩ ?_
    refine w_goto ?_
    rw [tk]
    refine ih (k + 1) _ _ _ (by omega) h1 h2 (fun a ha => (funext fun j => wz_nl (Or.inl ha)).trans (h3 a ha)) (fun j hj => ?_) (fun j hj => (wz_nl (Or.inr (by omega))).trans (h5 j hj)) kk
    rcases Nat.lt_or_ge j k with q | q
    · exact (wz_nl (Or.inr (by omega))).trans (h4 j q)
    · rw [show j = k by omega]; exact wz_sl
/-- the reference's state behind a plain() that reads a PLAIN -/
def rv_QO (sx ns : Nat) (PL WA : Nat → Int) (TO BI : Nat → Nat → Int) (nm : Nat → List Int) (M' : mj_M) : Prop := rv_H (M'.1 sx) PL WA TO BI ∧ (∀ k : Nat, (k : Int) < PL 4 → M'.2.1 ns k = rv_8 (nm k) ∧ rv_wo (nm k)) ∧ (∀ j, j < 537 → 184 ≤ j → M'.1 sx j = 0)
theorem r_plE {G : mj_G} {M : mj_M} {m ha sx ns : Nat} {d : Nat} {Q : mj_P} {r : Int} {v1 : Option mj_V} {PL WA : Nat → Int} {TO BI : Nat → Nat → Int} {nm : Nat → List Int} (gm : G m = (1012, 0)) (gh : G ha = (52100, 221)) (gs : G sx = (51100, 537)) (gn : G ns = (54103, 16)) (e6 : M.2.2 m 6 = some sx) (e7 : M.2.2 m 7 = some ha) (e9 : M.2.2 m 9 = some ns) (hr : M.1 m 19 = r) (hH : rv_H (M.1 ha) PL WA TO BI) (hp : PL 4 ≤ 8) (hN : ∀ k : Nat, (k : Int) < PL 4 → M.2.1 ns (8 + k) = rv_8 (nm k) ∧ rv_wo (nm k)) (hz0 : ∀ j, 184 ≤ j → j < 221 → M.1 ha j = 0) (hQ : ∀ M', rv_QO sx ns PL WA TO BI nm M' → M'.1 m 28 = 0 → Q (some (.inl r)) G M') (cb sb : Nat) : wz d mt_X12_plain.2.2.2.2.1 Q (mt_X12_plain.2.2.2.2.1.drop 74) [some (.inr (.inr (some m))), some (.inl 221)] [] G M cb sb := by
  refine w_ic ?_
  refine w_isn ?_
  refine r_cps gm gh gs e6 e7 537 0 M _ _ (by omega) rfl (fun _ _ => rfl) (fun j hj => absurd hj (Nat.not_lt_zero j)) (fun j hj => absurd hj (Nat.not_lt_zero j)) (fun M1 h2 h1 h3 h4 => ?_)
  refine w_ic ?_
  refine w_isn ?_
  refine r_cpn (M0 := M1) gm gn (by rw [h2]; exact e9) 8 0 M1 _ _ (by omega) rfl rfl (fun _ _ => rfl) (fun j hj => absurd hj (Nat.not_lt_zero j)) (fun _ _ => rfl) (fun M2 g1 g2 g3 g4 => ?_)
  refine w_aln rfl ?_
  refine w_ic ?_
  refine w_pi gm rfl (by decide) rfl (fun q => by cases q) ?_
  refine w_aln rfl ?_
  refine w_dupr ?_
  refine w_gi gm rfl (by decide) rfl rfl ?_
  refine w_ic ?_
  refine w_addw ?_
  intro z hz ez
  refine w_pi gm rfl (by decide) rfl (fun q => by cases q) ?_
  refine w_aln rfl ?_
  refine w_aln rfl ?_
  refine w_gi gm rfl (by decide) rfl rfl ?_
  refine w_pi gm rfl (by decide) rfl (fun q => by cases q) ?_
  refine w_aln rfl ?_
  refine w_gi gm rfl (by decide) rfl (v := r) ((hn_n (Or.inr (by decide))).trans ((hn_n (Or.inr (by decide))).trans ((hn_n (Or.inr (by decide))).trans (by rw [g1, h1 m (hn_ne gm gs (by decide))]; exact hr)))) ?_
  have sn : sx ≠ m := hn_ne gs gm (by decide)
  refine w_iret (fun q => by cases q) (hQ _ ⟨hH.cg (fun k hk => ?_), fun k hk => ⟨?_, (hN k hk).2⟩, fun j hj h => ?_⟩ ((hn_n (Or.inr (by decide))).trans ((hn_n (Or.inr (by decide))).trans hn_s)))
  · exact (hn_n (Or.inl sn)).trans ((hn_n (Or.inl sn)).trans ((hn_n (Or.inl sn)).trans (by rw [g1]; exact h3 k hk)))
  · show M2.2.1 ns k = _
    rw [g4 k (by omega), h2]; exact (hN k hk).1
  · exact (hn_n (Or.inl sn)).trans ((hn_n (Or.inl sn)).trans ((hn_n (Or.inl sn)).trans (by
      rw [g1]
      rcases Nat.lt_or_ge j 221 with q | q
      · rw [h3 j q]; exact hz0 j h q
      · exact h4 j hj q)))
theorem r_rowsR {G : mj_G} {M0 : mj_M} {B : Nat → Int} {n lim m bt ha hd ns rs sx : Nat} {T : Nat → Nat × Nat × Int × List Int × Nat} {Q : mj_P} {d : Nat} (hB : rv_BT G M0 B n lim m bt ha hd ns rs sx T) : ∀ (f q r : Nat) (PL WA OA : Nat → Int) (TO BI : Nat → Nat → Int) (nm : Nat → List Int) (g z : Int) (M : mj_M) (cb sb : Nat), n < q + f → q ≤ n → r ≤ q → rv_pb PL → rv_R M0 n lim m bt ha hd ns rs sx (T q) PL WA OA TO BI nm (PL 4) g z (r : Int) M → sp_rows T (fun f a => ∀ M', rv_sw M0 sx m ha M' → Q (some (.inl (rv_vf a))) G M') (fun PL WA OA TO BI nm r => ∀ M', rv_QO sx ns PL WA TO BI nm M' → M'.1 m 28 = 0 → Q (some (.inl (r : Int))) G M') f PL WA OA TO BI nm r q → wz (d + 6) mt_X12_plain.2.2.2.2.1 Q (mt_X12_plain.2.2.2.2.1.drop 52) [some (.inr (.inr (some m))), some (.inl 221)] [] G M cb sb := by
  obtain ⟨⟨gm, gbt, gha, ghd, gns, grs, r1, r7, r23, r9, r10, rb, rr, n1, n2, gsx, r6⟩, hT⟩ := id hB
  intro f
  induction f with
  | zero => intro q r PL WA OA TO BI nm g z M cb sb g1 g2 g3; exfalso; omega
  | succ f ih =>
    intro q r PL WA OA TO BI nm g z M cb sb g1 g2 g3 hb hS h
    obtain ⟨h0, h5, hr⟩ := h
    have hw := rv_y_w hB g2
    have hk := rv_tkc_f hw.1
    have bad : ∀ (M1 : mj_M) (f : Int) (a cb sb : Nat), rv_FR M0 m sx ha f a M1 → (∀ M', rv_sw M0 sx m ha M' → Q (some (.inl (rv_vf a))) G M') → wz (d + 6) mt_X12_plain.2.2.2.2.1 Q (mt_X12_plain.2.2.2.2.1.drop 62) [some (.inr (.inr (some m))), some (.inl 221)] [] G M1 cb sb := by
      intro M1 f a cb sb hF hQ
      refine w_ic ?_
      refine w_aln rfl ?_
      refine w_gi gm rfl (by decide) rfl hF.2.1 ?_
      refine w_subw ?_
      intro y hy ey
      have ev : y = rv_vf a := ey
      refine w_iret (fun q => by cases q) ?_
      rw [ev]
      exact hQ _ hF.2.2
    refine w_aln rfl ?_
    refine w_gi gm rfl (by decide) rfl hS.2.1.1 ?_
    refine w_ifeq (fun c => ?_) (fun c => ?_)
    · exact r_plE (v1 := none) gm gha gsx gns (by rw [hS.2.2.2.2.2.1]; exact r6) (by rw [hS.2.2.2.2.2.1]; exact r7) (by rw [hS.2.2.2.2.2.1]; exact r9) hS.1.2.2.2.2.2.2.2 hS.2.2.1 hb.2.1 hS.2.2.2.2.1 hS.2.2.2.2.2.2.2.2.2.2 (h0 (by omega)) _ _
    · have e0 : (T q).1 ≠ 0 := by omega
      refine w_aln rfl ?_
      by_cases e5 : (T q).1 = 5
      · refine w_cv (st := []) rfl gm rfl (Nat.le_of_ble_eq_true rfl) (fun kk h => h) (r_rR_n (d := d) hB hS g2 hb (fun i hi g => by omega) (fun M1 F1 => ?_))
        refine w_ifeq (fun _ => ?_) (fun c => absurd rfl c)
        exact bad M1 _ _ _ _ F1 (h5 e5)
      · have hlt := hw.2.2.2.1 e0 e5
        have hle := hw.2.2.2.2.2
        refine w_cv (st := []) rfl gm rfl (Nat.le_of_ble_eq_true rfl) (fun kk h => h) (r_X12_row2 (d := d) hB hS g2 hb ((hr e0 e5).mono (fun f a hf M1 F1 => ?_) (fun PL1 WA1 OA1 TO1 BI1 nm1 q1 hk1 g4 g5 hb1 ga za M1 s1 => ?_)))
        · refine w_ifeq (fun _ => ?_) (fun c => absurd rfl c)
          exact bad M1 _ _ _ _ F1 hf
        · refine w_ifeq (fun c => absurd c (by decide)) (fun _ => ?_)
          refine w_aln rfl ?_
          refine w_bp ?_
          have g6 := rv_y_le hB g5
          have g7 := rv_y_ge hB g5
          refine w_cv (st := []) rfl gm rfl (Nat.le_of_ble_eq_true rfl) (fun kk h => h) (r_X12_sign2 (d := d + 3) hB s1 g6 (hk1.mono (fun f a hf M2 F2 => ?_) (fun e3 hk2 M2 s2 => ?_)))
          · refine w_ifne (fun c => absurd rfl c) (fun _ => ?_)
            exact bad M2 _ _ _ _ F2 hf
          · have g8 := (rv_y_w hB g6).2.2.2.1 (by omega) (by omega)
            have g9 := rv_y_le hB g6
            refine w_ifne (fun _ => ?_) (fun c => absurd c (by decide))
            refine w_aln rfl ?_
            refine w_dupr ?_
            refine w_gi gm rfl (by decide) rfl s2.1.2.2.2.2.2.2.2 ?_
            refine w_ic ?_
            refine w_add ⟨by omega, by omega⟩ ?_
            refine w_pi gm rfl (by decide) rfl (fun q => by cases q) ?_
            have s3 := s2.srow (v := (r : Int) + 1) hB.1
            refine w_goto ?_
            exact ih (rv_x T (rv_x T q1)) (r + 1) PL1 WA1 OA1 TO1 BI1 nm1 _ _ _ _ _ (by unfold rv_x at *; omega) g9 (by unfold rv_x at *; omega) hb1 s3 hk2
theorem r_X12_plain2 {G : mj_G} {M : mj_M} {B : Nat → Int} {n m bt ha hd ns rs sx : Nat} {T : Nat → Nat × Nat × Int × List Int × Nat} {Q : mj_P} {d : Nat} {PL WA OA : Nat → Int} {TO BI : Nat → Nat → Int} {NA : Nat → Int64} (hB : rv_BT G M B n 900 m bt ha hd ns rs sx T) (hn : M.1 m 2 = (n : Int)) (h0 : rv_0 PL WA OA TO BI NA) (h : sp_rows T (fun f a => ∀ M', rv_sw M sx m ha M' → Q (some (.inl (rv_vf a))) G M') (fun PL WA OA TO BI nm r => ∀ M', rv_QO sx ns PL WA TO BI nm M' → M'.1 m 28 = 0 → Q (some (.inl (r : Int))) G M') (n + 1) PL WA OA TO BI (fun _ => []) 0 0) : mj_R mj_tab (d + 7) 226 [.inr (.inr (some m))] G M Q := by
  obtain ⟨⟨gm, gbt, gha, ghd, gns, grs, r1, r7, r23, r9, r10, rb, rr, n1, n2, gsx, r6⟩, hT⟩ := id hB
  refine ⟨Nat.le_of_ble_eq_true rfl, ?_⟩
  show wz (d + 6) mt_X12_plain.2.2.2.2.1 Q mt_X12_plain.2.2.2.2.1 [some (.inr (.inr (some m))), none] [] G M _ _
  refine w_aln rfl ?_
  refine w_ic ?_
  refine w_pi gm rfl (by decide) rfl (fun q => by cases q) ?_
  refine w_aln rfl ?_
  refine w_sp ?_
  refine w_cv (st := []) rfl gm rfl (Nat.le_of_ble_eq_true rfl) (fun kk h => h) ⟨Nat.le_of_ble_eq_true rfl, ?_⟩
  show wz (d + 5) mt_X12_taken.2.2.2.2.1 _ mt_X12_taken.2.2.2.2.1 [some (.inr (.inr (some m))), some (.inl 900)] [] _ _ _ _
  refine w_aln rfl ?_
  refine w_aln rfl ?_
  refine w_gi gm rfl (by decide) rfl (v := (n : Int)) ((hn_n (Or.inr (by decide))).trans hn) ?_
  refine w_pi gm rfl (by decide) rfl (fun q => by cases q) ?_
  refine w_aln rfl ?_
  refine w_ic ?_
  refine w_pi gm rfl (by decide) rfl (fun q => by cases q) ?_
  refine w_aln rfl ?_
  refine w_ic ?_
  refine w_pi gm rfl (by decide) rfl (fun q => by cases q) ?_
  refine w_aln rfl ?_
  refine w_iln rfl ?_
  refine w_pi gm rfl (by decide) rfl (fun q => by cases q) ?_
  refine w_ret ?_
  refine w_aln rfl ?_
  refine w_ic ?_
  refine w_pi gm rfl (by decide) rfl (fun q => by cases q) ?_
  refine w_aln rfl ?_
  refine w_ic ?_
  refine w_pi gm rfl (by decide) rfl (fun q => by cases q) ?_
  refine w_aln rfl ?_
  refine w_ic ?_
  refine w_pi gm rfl (by decide) rfl (fun q => by cases q) ?_
  refine w_aln rfl ?_
  refine w_ic ?_
  refine w_pi gm rfl (by decide) rfl (fun q => by cases q) ?_
  refine w_aln rfl ?_
  refine w_ic ?_
  refine w_pi gm rfl (by decide) rfl (fun q => by cases q) ?_
  have eo : ∀ a, a ≠ m → (mj_p0 (mj_p0 (mj_p0 (mj_p0 (mj_p0 (mj_p0 (mj_p0 (mj_p0 (mj_p0 (mj_p0 M m 0 0) m 3 (n : Int)) m 2 0) m 4 0) m 5 900) m 15 0) m 19 0) m 20 0) m 21 0) m 22 0).1 a = M.1 a := fun a ha => (wz_c ha).trans ((wz_c ha).trans ((wz_c ha).trans ((wz_c ha).trans ((wz_c ha).trans ((wz_c ha).trans ((wz_c ha).trans ((wz_c ha).trans ((wz_c ha).trans ((wz_c ha))))))))))
  refine w_ic ?_
  refine w_isn ?_
  refine r_zhd (M0 := (mj_p0 (mj_p0 (mj_p0 (mj_p0 (mj_p0 (mj_p0 (mj_p0 (mj_p0 (mj_p0 (mj_p0 M m 0 0) m 3 (n : Int)) m 2 0) m 4 0) m 5 900) m 15 0) m 19 0) m 20 0) m 21 0) m 22 0)) gm ghd r23 4 0 _ _ _ (by omega) rfl (fun _ _ => rfl) (fun j hj => absurd hj (Nat.not_lt_zero j)) (fun M1 h2 h1 z1 => ?_)
  refine w_ic ?_
  refine w_isn ?_
  refine r_zha (M0 := M1) gm gha (by rw [h2]; exact r7) 221 0 _ _ _ (by omega) rfl (fun _ _ => rfl) (fun j hj => absurd hj (Nat.not_lt_zero j)) (fun M2 k2 k1 z2 => ?_)
  refine w_aln rfl ?_
  refine w_gr gm rfl (by decide) rfl (by rw [k2, h2]; exact r7) ?_
  refine w_ic ?_
  refine w_ic ?_
  refine w_iast gha rfl (by decide) (by omega) (by show (3 : Int) < ((221 : Nat) : Int); omega) ?_
  refine w_aln rfl ?_
  have mm : ∀ j, (mj_p0 M2 ha ((3 : Int)).toNat 3).1 m j = (mj_p0 (mj_p0 (mj_p0 (mj_p0 (mj_p0 (mj_p0 (mj_p0 (mj_p0 (mj_p0 (mj_p0 M m 0 0) m 3 (n : Int)) m 2 0) m 4 0) m 5 900) m 15 0) m 19 0) m 20 0) m 21 0) m 22 0).1 m j := fun j => (hn_n (Or.inl (hn_ne gm gha (by decide)))).trans ((congrFun (k1 m (hn_ne gm gha (by decide))) j).trans (congrFun (h1 m (hn_ne gm ghd (by decide))) j))
  have eh : ∀ j, j < 221 → j ≠ 3 → (mj_p0 M2 ha ((3 : Int)).toNat 3).1 ha j = 0 := fun j hj h3 => (hn_n (Or.inr h3)).trans (z2 j hj)
  have ed : ∀ j, j < 4 → (mj_p0 M2 ha ((3 : Int)).toNat 3).1 hd j = 0 := fun j hj => (hn_n (Or.inl (hn_ne ghd gha (by decide)))).trans ((congrFun (k1 hd (hn_ne ghd gha (by decide))) j).trans (z1 j hj))
  have ebt : (mj_p0 M2 ha ((3 : Int)).toNat 3).1 bt = M.1 bt := (wz_c (hn_ne gbt gha (by decide))).trans ((k1 bt (hn_ne gbt gha (by decide))).trans ((h1 bt (hn_ne gbt ghd (by decide))).trans (eo bt (hn_ne gbt gm (by decide)))))
  have e22 : (mj_p0 M2 ha ((3 : Int)).toNat 3).2 = M.2 := k2.trans h2
  obtain ⟨w1, w2, w4, w5, w6, w7, w8, w11, w12, w13, w14⟩ := id h0
  have S0 : rv_R0 M n 900 m bt ha hd ns rs sx 0 PL WA OA TO BI (fun _ => []) (PL 4) ((mj_p0 M2 ha ((3 : Int)).toNat 3).1 m 18) ((mj_p0 M2 ha ((3 : Int)).toNat 3).1 m 24) ((0 : Nat) : Int) (mj_p0 M2 ha ((3 : Int)).toNat 3) := by
    refine ⟨⟨(mm 3).trans ((hn_n (Or.inr (by decide))).trans ((hn_n (Or.inr (by decide))).trans ((hn_n (Or.inr (by decide))).trans ((hn_n (Or.inr (by decide))).trans ((hn_n (Or.inr (by decide))).trans ((hn_n (Or.inr (by decide))).trans ((hn_n (Or.inr (by decide))).trans ((hn_n (Or.inr (by decide))).trans (hn_s))))))))), (mm 5).trans ((hn_n (Or.inr (by decide))).trans ((hn_n (Or.inr (by decide))).trans ((hn_n (Or.inr (by decide))).trans ((hn_n (Or.inr (by decide))).trans ((hn_n (Or.inr (by decide))).trans (hn_s)))))), ((mm 21).trans ((hn_n (Or.inr (by decide))).trans (hn_s))).trans w5.symm, ((mm 22).trans (hn_s)).trans w11.symm, fun k hk => ?_, rfl, rfl, (mm 19).trans ((hn_n (Or.inr (by decide))).trans ((hn_n (Or.inr (by decide))).trans ((hn_n (Or.inr (by decide))).trans (hn_s))))⟩, (mm 4).trans ((hn_n (Or.inr (by decide))).trans ((hn_n (Or.inr (by decide))).trans ((hn_n (Or.inr (by decide))).trans ((hn_n (Or.inr (by decide))).trans ((hn_n (Or.inr (by decide))).trans ((hn_n (Or.inr (by decide))).trans (hn_s))))))), ⟨(eh 0 (by decide) (by decide)).trans w4.symm, (eh 1 (by decide) (by decide)).trans w6.symm, (eh 2 (by decide) (by decide)).trans w7.symm, hn_s.trans w8.symm, fun t w ht hw => (eh _ (by omega) (by omega)).trans ((w1 t ht).2.2.1 w hw).symm, fun w hw => (eh _ (by omega) (by omega)).trans (w2 w hw).symm, fun t w ht hw => ⟨(eh _ (by omega) (by omega)).trans ((w1 t ht).2.2.2 w hw).symm, by rw [(w1 t ht).2.2.2 w hw]; decide⟩⟩, fun s k hs hk => by rw [ed s hs, (w1 k hk).2.1]; exact rv_bt_00 k (s + 4) (by omega) (by omega), fun k hk => by rw [w4] at hk; omega, congrArg Prod.snd e22, congrFun (congrArg Prod.fst e22) rs, ebt, ⟨(wz_c (hn_ne gsx gha (by decide))).trans ((k1 sx (hn_ne gsx gha (by decide))).trans ((h1 sx (hn_ne gsx ghd (by decide))).trans (eo sx (hn_ne gsx gm (by decide))))), fun j hj => (mm j).trans ((hn_n (Or.inr (by omega))).trans ((hn_n (Or.inr (by omega))).trans ((hn_n (Or.inr (by omega))).trans ((hn_n (Or.inr (by omega))).trans ((hn_n (Or.inr (by omega))).trans ((hn_n (Or.inr (by omega))).trans ((hn_n (Or.inr (by omega))).trans ((hn_n (Or.inr (by omega))).trans ((hn_n (Or.inr (by omega))).trans (hn_n (Or.inr (by omega)))))))))))), fun j h1 h2 => eh j h2 (by omega)⟩⟩
    rw [mm 20, show (mj_p0 (mj_p0 (mj_p0 (mj_p0 (mj_p0 (mj_p0 (mj_p0 (mj_p0 (mj_p0 (mj_p0 M m 0 0) m 3 (n : Int)) m 2 0) m 4 0) m 5 900) m 15 0) m 19 0) m 20 0) m 21 0) m 22 0).1 m 20 = 0 from (hn_n (Or.inr (by decide))).trans ((hn_n (Or.inr (by decide))).trans (hn_s))]
    have : k = 0 ∨ k = 1 ∨ k = 2 := by omega
    rcases this with rfl | rfl | rfl
    · rw [w12]; decide
    · rw [w13]; decide
    · rw [w14]; decide
  refine w_cv (st := []) rfl gm rfl (Nat.le_of_ble_eq_true rfl) (fun kk h => h) (r_nxt0 (d := d + 4) hB.1 S0 (Nat.zero_le n) (fun M3 s3 => ?_))
  rw [← hB.2] at s3
  exact r_rowsR hB (n + 1) 0 0 PL WA OA TO BI _ _ _ M3 _ _ (by omega) (Nat.zero_le n) (Nat.le_refl 0) ⟨by rw [w4]; decide, by rw [w4]; decide, by rw [w5]; decide, by rw [w5]; decide⟩ s3 h
end
