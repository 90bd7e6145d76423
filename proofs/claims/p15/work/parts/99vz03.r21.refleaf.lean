/-! ===== the reference's leaf readers (laid by a program) ===== -/
def rv_BT (G : mj_G) (M0 : mj_M) (B : Nat → Int) (n lim m bt ha hd ns rs sx : Nat) (T : Nat → Nat × Nat × Int × List Int × Nat) : Prop := rv_B G M0 B n lim m bt ha hd ns rs sx ∧ T = rv_T B n lim
theorem w_rem {d : Nat} {full : List mj_E} {Q : mj_P} {rest : List mj_E} {L : mj_L} {st : List mj_V} {G : mj_G} {M : mj_M} {cb sb pc : Nat} {aux : List Nat} {im : Int} {x y : Int} (hy : y ≠ 0) (kk : ∀ z, mj_in z → z = (Int32.ofInt x - Int32.ofInt x / Int32.ofInt y * Int32.ofInt y).toInt → wz d full Q rest L (.inl z :: st) G M cb sb) : wz d full Q ((.irem, pc, aux, im) :: rest) L (.inl y :: .inl x :: st) G M cb sb := wz_st ⟨hy, kk⟩
theorem sp_nam.bad {T : Nat → Nat × Nat × Int × List Int × Nat} {p : Nat} {Kf : Int → Nat → Prop} {Ko : Prop} (h : sp_nam T p Kf Ko) (c : ¬ ((T p).1 = 1 ∧ rv_nam (T p).2.2.2.1)) : Kf 1 (T p).2.1 := by
  by_cases e : (T p).1 = 1
  · exact (h.1 e).2 (fun g => c ⟨e, g⟩)
  · exact h.2 e
theorem rv_rs_8 : ∀ j, j < 24 → ∀ W : Int64, W = rv_8 (rv_rs.getD j []) → rv_8 (rv_rs.getD j []) = W := fun _ _ _ h => h.symm
theorem rv_y_w {G : mj_G} {M0 : mj_M} {B : Nat → Int} {n lim m bt ha hd ns rs sx : Nat} {T : Nat → Nat × Nat × Int × List Int × Nat} {q : Nat} (hB : rv_BT G M0 B n lim m bt ha hd ns rs sx T) (h : q ≤ n) : rv_tw n q (T q) := by rw [hB.2]; exact rv_T_w h
theorem rv_y_le {G : mj_G} {M0 : mj_M} {B : Nat → Int} {n lim m bt ha hd ns rs sx : Nat} {T : Nat → Nat × Nat × Int × List Int × Nat} {q : Nat} (hB : rv_BT G M0 B n lim m bt ha hd ns rs sx T) (h : q ≤ n) : rv_x T q ≤ n := (rv_y_w hB h).2.2.2.2.2
theorem rv_y_ge {G : mj_G} {M0 : mj_M} {B : Nat → Int} {n lim m bt ha hd ns rs sx : Nat} {T : Nat → Nat × Nat × Int × List Int × Nat} {q : Nat} (hB : rv_BT G M0 B n lim m bt ha hd ns rs sx T) (h : q ≤ n) : q ≤ rv_x T q := (rv_y_w hB h).2.1
theorem rv_y_wo {G : mj_G} {M0 : mj_M} {B : Nat → Int} {n lim m bt ha hd ns rs sx : Nat} {T : Nat → Nat × Nat × Int × List Int × Nat} {q : Nat} (hB : rv_BT G M0 B n lim m bt ha hd ns rs sx T) (h : q ≤ n) (h1 : (T q).1 = 1) : rv_wo (T q).2.2.2.1 := (rv_y_w hB h).2.2.2.2.1 h1
theorem r_nxtT {G : mj_G} {M0 M : mj_M} {B : Nat → Int} {n lim m bt ha hd ns rs sx : Nat} {T : Nat → Nat × Nat × Int × List Int × Nat} {PL WA OA : Nat → Int} {TO BI : Nat → Nat → Int} {nm : Nat → List Int} {b g z r : Int} {Q : mj_P} {d q : Nat} (hB : rv_BT G M0 B n lim m bt ha hd ns rs sx T) (h : rv_R M0 n lim m bt ha hd ns rs sx (T q) PL WA OA TO BI nm b g z r M) (hk : (T q).1 ≠ 0) (hk5 : (T q).1 ≠ 5) (hq : q ≤ n) (hQ : ∀ M', rv_R M0 n lim m bt ha hd ns rs sx (T (rv_x T q)) PL WA OA TO BI nm b g z r M' → Q none G M') : mj_R mj_tab (d + 2) 216 [.inr (.inr (some m))] G M Q := r_nxt hB.1 h hk hk5 rfl (rv_y_le hB hq) (fun M' h' => hQ M' (by rw [hB.2]; rw [hB.2] at h'; exact h'))
theorem r_X12_bad2 {G : mj_G} {M0 M : mj_M} {B : Nat → Int} {n lim m bt ha hd ns rs sx : Nat} {T : Nat → Nat × Nat × Int × List Int × Nat} {PL WA OA : Nat → Int} {TO BI : Nat → Nat → Int} {nm : Nat → List Int} {b g z r : Int} {Q : mj_P} {d : Nat} {f : Int} {t : Nat × Nat × Int × List Int × Nat} (hB : rv_BT G M0 B n lim m bt ha hd ns rs sx T) (hS : rv_R M0 n lim m bt ha hd ns rs sx t PL WA OA TO BI nm b g z r M) (hQ : ∀ M', rv_FR M0 m sx ha f t.2.1 M' → Q (some (.inl 0)) G M') : mj_R mj_tab (d + 1) 161 [.inr (.inr (some m)), .inl f] G M Q := by
  have gm := hB.1.1
  refine ⟨Nat.le_of_ble_eq_true rfl, ?_⟩
  show wz d mt_X12_bad.2.2.2.2.1 Q mt_X12_bad.2.2.2.2.1 [some (.inr (.inr (some m))), some (.inl f)] [] G M _ _
  refine w_aln rfl ?_
  refine w_iln rfl ?_
  refine w_pi gm rfl (by decide) rfl (fun q => by cases q) ?_
  refine w_aln rfl ?_
  refine w_aln rfl ?_
  refine w_gi gm rfl (by decide) rfl rfl ?_
  refine w_pi gm rfl (by decide) rfl (fun q => by cases q) ?_
  refine w_ic ?_
  exact w_iret (fun _ => Or.inl rfl) (hQ _ ⟨(hn_n (Or.inr (by decide))).trans hn_s, hn_s.trans ((hn_n (Or.inr (by decide))).trans hS.2.1.2.1), (hS.2.2.2.2.2.2.2.2.m (hn_ne hB.1.2.2.2.2.2.2.2.2.2.2.2.2.2.2.2.1 gm (by decide)) (hn_ne hB.1.2.2.1 gm (by decide)) (by decide)).m (hn_ne hB.1.2.2.2.2.2.2.2.2.2.2.2.2.2.2.2.1 gm (by decide)) (hn_ne hB.1.2.2.1 gm (by decide)) (by decide)⟩)
theorem r_isWord1 {G : mj_G} {M0 M : mj_M} {B : Nat → Int} {n lim m bt ha hd ns rs sx : Nat} {T : Nat → Nat × Nat × Int × List Int × Nat} {PL WA OA : Nat → Int} {TO BI : Nat → Nat → Int} {nm : Nat → List Int} {b g z r : Int} {Q : mj_P} {d q : Nat} {i : Nat} {W : Int64} (hB : rv_BT G M0 B n lim m bt ha hd ns rs sx T) (hS : rv_R M0 n lim m bt ha hd ns rs sx (T q) PL WA OA TO BI nm b g z r M) (hqn : q ≤ n) (hi : i < 24) (hW : rv_8 (rv_rs.getD i []) = W) (hc : ((T q).1 = 1 ∧ rv_rs.getD i [] = (T q).2.2.2.1)) (hQ : Q (some (.inl 1)) G M) : mj_R mj_tab (d + 1) 206 [.inr (.inr (some m)), .inr (.inl W)] G M Q := by
  obtain ⟨⟨gm, gbt, gha, ghd, gns, grs, r1, r7, r23, r9, r10, rb, rr, n1, n2, gsx, r6⟩, hT⟩ := id hB
  have hk := rv_tkc_f (rv_y_w hB hqn).1
  refine ⟨Nat.le_of_ble_eq_true rfl, ?_⟩
  show wz d mt_X12_isWord.2.2.2.2.1 Q mt_X12_isWord.2.2.2.2.1 [some (.inr (.inr (some m))), some (.inr (.inl W)), none] [] G M _ _
  refine w_aln rfl ?_
  refine w_gi gm rfl (by decide) rfl hS.2.1.1 ?_
  refine w_ic ?_
  have h1 := hc.1
  refine w_cmne (fun c => by exfalso; omega) (fun c => ?_)
  refine w_aln rfl ?_
  refine w_gl gm rfl (by decide) rfl (hS.2.1.2.2.1 h1) ?_
  refine w_lln rfl ?_
  refine w_lcmp ?_
  intro z hz ez
  have qz := rv_cmp ez
  refine w_ifne (fun c2 => absurd (by rw [← hW, hc.2]) (qz.2 c2)) (fun c2 => ?_)
  refine w_ic ?_
  refine w_goto ?_
  exact w_iret (fun _ => Or.inr rfl) hQ
theorem r_isWord0 {G : mj_G} {M0 M : mj_M} {B : Nat → Int} {n lim m bt ha hd ns rs sx : Nat} {T : Nat → Nat × Nat × Int × List Int × Nat} {PL WA OA : Nat → Int} {TO BI : Nat → Nat → Int} {nm : Nat → List Int} {b g z r : Int} {Q : mj_P} {d q : Nat} {i : Nat} {W : Int64} (hB : rv_BT G M0 B n lim m bt ha hd ns rs sx T) (hS : rv_R M0 n lim m bt ha hd ns rs sx (T q) PL WA OA TO BI nm b g z r M) (hqn : q ≤ n) (hi : i < 24) (hW : rv_8 (rv_rs.getD i []) = W) (hc : ¬ ((T q).1 = 1 ∧ rv_rs.getD i [] = (T q).2.2.2.1)) (hQ : Q (some (.inl 0)) G M) : mj_R mj_tab (d + 1) 206 [.inr (.inr (some m)), .inr (.inl W)] G M Q := by
  obtain ⟨⟨gm, gbt, gha, ghd, gns, grs, r1, r7, r23, r9, r10, rb, rr, n1, n2, gsx, r6⟩, hT⟩ := id hB
  have hk := rv_tkc_f (rv_y_w hB hqn).1
  refine ⟨Nat.le_of_ble_eq_true rfl, ?_⟩
  show wz d mt_X12_isWord.2.2.2.2.1 Q mt_X12_isWord.2.2.2.2.1 [some (.inr (.inr (some m))), some (.inr (.inl W)), none] [] G M _ _
  refine w_aln rfl ?_
  refine w_gi gm rfl (by decide) rfl hS.2.1.1 ?_
  refine w_ic ?_
  refine w_cmne (fun c => ?_) (fun c => ?_)
  · refine w_ic ?_
    exact w_iret (fun _ => Or.inl rfl) hQ
  · have h1 : (T q).1 = 1 := by omega
    refine w_aln rfl ?_
    refine w_gl gm rfl (by decide) rfl (hS.2.1.2.2.1 h1) ?_
    refine w_lln rfl ?_
    refine w_lcmp ?_
    intro z hz ez
    have qz := rv_cmp ez
    refine w_ifne (fun c2 => ?_) (fun c2 => absurd ⟨h1, rv_8i (rv_rs_o i hi) (rv_y_wo hB hqn h1) (hW.trans (qz.1 c2).symm)⟩ hc)
    refine w_ic ?_
    exact w_iret (fun _ => Or.inl rfl) hQ
theorem r_isName1 {G : mj_G} {M0 M : mj_M} {B : Nat → Int} {n lim m bt ha hd ns rs sx : Nat} {T : Nat → Nat × Nat × Int × List Int × Nat} {PL WA OA : Nat → Int} {TO BI : Nat → Nat → Int} {nm : Nat → List Int} {b g z r : Int} {Q : mj_P} {d q : Nat} (hB : rv_BT G M0 B n lim m bt ha hd ns rs sx T) (hS : rv_R M0 n lim m bt ha hd ns rs sx (T q) PL WA OA TO BI nm b g z r M) (hqn : q ≤ n) (h1 : (T q).1 = 1 → rv_nam (T q).2.2.2.1 → Q (some (.inl 1)) G M) (h0 : ¬ ((T q).1 = 1 ∧ rv_nam (T q).2.2.2.1) → Q (some (.inl 0)) G M) : ∀ (f k : Nat) (y : Int) (cb sb : Nat), k + f = 24 → ((y = 1 ∧ (T q).1 = 1 ∧ ∀ j, j < k → rv_rs.getD j [] ≠ (T q).2.2.2.1) ∨ (y = 0 ∧ ¬ ((T q).1 = 1 ∧ ∀ j, j < k → rv_rs.getD j [] ≠ (T q).2.2.2.1))) → wz d mt_X12_isName.2.2.2.2.1 Q (mt_X12_isName.2.2.2.2.1.drop 10) [some (.inr (.inr (some m))), some (.inl y), some (.inl (k : Int))] [] G M cb sb := by
  obtain ⟨⟨gm, gbt, gha, ghd, gns, grs, r1, r7, r23, r9, r10, rb, rr, n1, n2, gsx, r6⟩, hT⟩ := id hB
  intro f
  induction f with
  | zero =>
    intro k y cb sb hk hy
    have e : k = 24 := by omega
    subst e
    refine w_iln rfl ?_
    refine w_bp ?_
    refine w_cmge (fun c => ?_) (fun c => by exfalso; omega)
    refine w_iln rfl ?_
    rcases hy with ⟨e, a1, a2⟩ | ⟨e, a1⟩
    · rw [e]; exact w_iret (fun _ => Or.inr rfl) (h1 a1 a2)
    · rw [e]; exact w_iret (fun _ => Or.inl rfl) (h0 a1)
  | succ f ih =>
    intro k y cb sb hk hy
    have hk24 : k < 24 := by omega
    refine w_iln rfl ?_
    refine w_bp ?_
    refine w_cmge (fun c => by exfalso; omega) (fun c => ?_)
    refine w_iln rfl ?_
    refine w_ifeq (fun c2 => ?_) (fun c2 => ?_)
    · refine w_ic ?_
      refine w_isn ?_
      refine w_ii rfl ⟨by omega, by omega⟩ ?_
      refine w_goto ?_
      refine ih (k + 1) 0 _ _ (by omega) (Or.inr ⟨rfl, fun g => ?_⟩)
      rcases hy with ⟨e, a1, a2⟩ | ⟨e, a1⟩
      · omega
      · exact a1 ⟨g.1, fun j hj => g.2 j (by omega)⟩
    · rcases hy with ⟨e, a1, a2⟩ | ⟨e, a1⟩
      · refine w_aln rfl ?_
        refine w_gl gm rfl (by decide) rfl (hS.2.1.2.2.1 a1) ?_
        refine w_aln rfl ?_
        refine w_gr gm rfl (by decide) rfl (by rw [hS.2.2.2.2.2.1]; exact r10) ?_
        refine w_iln rfl ?_
        refine w_lald (v := rv_8 (rv_rs.getD k [])) grs rfl (by omega) (by show (k : Int) < ((24 : Nat) : Int); omega) (by rw [hS.2.2.2.2.2.2.1]; exact rr k hk24) ?_
        refine w_lcmp ?_
        intro z hz ez
        have qz := rv_cmp ez
        refine w_ifeq (fun c3 => ?_) (fun c3 => ?_)
        · refine w_ic ?_
          refine w_isn ?_
          refine w_ii rfl ⟨by omega, by omega⟩ ?_
          refine w_goto ?_
          exact ih (k + 1) 0 _ _ (by omega) (Or.inr ⟨rfl, fun g => g.2 k (by omega) (rv_8i (rv_rs_o k hk24) (rv_y_wo hB hqn a1) (qz.1 c3).symm)⟩)
        · refine w_ic ?_
          refine w_goto ?_
          refine w_isn ?_
          refine w_ii rfl ⟨by omega, by omega⟩ ?_
          refine w_goto ?_
          refine ih (k + 1) 1 _ _ (by omega) (Or.inl ⟨rfl, a1, fun j hj e => ?_⟩)
          rcases Nat.lt_or_ge j k with q1 | q1
          · exact a2 j q1 e
          · have ej : j = k := by omega
            rw [ej] at e
            exact qz.2 c3 (by rw [e])
      · omega
theorem r_X12_isName2 {G : mj_G} {M0 M : mj_M} {B : Nat → Int} {n lim m bt ha hd ns rs sx : Nat} {T : Nat → Nat × Nat × Int × List Int × Nat} {PL WA OA : Nat → Int} {TO BI : Nat → Nat → Int} {nm : Nat → List Int} {b g z r : Int} {Q : mj_P} {d q : Nat} (hB : rv_BT G M0 B n lim m bt ha hd ns rs sx T) (hS : rv_R M0 n lim m bt ha hd ns rs sx (T q) PL WA OA TO BI nm b g z r M) (hqn : q ≤ n) (h1 : (T q).1 = 1 → rv_nam (T q).2.2.2.1 → Q (some (.inl 1)) G M) (h0 : ¬ ((T q).1 = 1 ∧ rv_nam (T q).2.2.2.1) → Q (some (.inl 0)) G M) : mj_R mj_tab (d + 1) 201 [.inr (.inr (some m))] G M Q := by
  obtain ⟨⟨gm, gbt, gha, ghd, gns, grs, r1, r7, r23, r9, r10, rb, rr, n1, n2, gsx, r6⟩, hT⟩ := id hB
  have hk := rv_tkc_f (rv_y_w hB hqn).1
  refine ⟨Nat.le_of_ble_eq_true rfl, ?_⟩
  show wz d mt_X12_isName.2.2.2.2.1 Q mt_X12_isName.2.2.2.2.1 [some (.inr (.inr (some m))), none, none] [] G M _ _
  refine w_aln rfl ?_
  refine w_gi gm rfl (by decide) rfl hS.2.1.1 ?_
  refine w_ic ?_
  refine w_cmne (fun c => ?_) (fun c => ?_)
  · refine w_ic ?_
    refine w_isn ?_
    refine w_ic ?_
    refine w_isn ?_
    exact r_isName1 hB hS hqn h1 h0 24 0 0 _ _ (by omega) (Or.inr ⟨rfl, fun g => by omega⟩)
  · refine w_ic ?_
    refine w_goto ?_
    refine w_isn ?_
    refine w_ic ?_
    refine w_isn ?_
    exact r_isName1 hB hS hqn h1 h0 24 0 1 _ _ (by omega) (Or.inl ⟨rfl, by omega, fun j hj => absurd hj (Nat.not_lt_zero j)⟩)
theorem r_findR {G : mj_G} {M0 M : mj_M} {B : Nat → Int} {n lim m bt ha hd ns rs sx : Nat} {T : Nat → Nat × Nat × Int × List Int × Nat} {PL WA OA : Nat → Int} {TO BI : Nat → Nat → Int} {nm : Nat → List Int} {b g z r : Int} {Q : mj_P} {d q : Nat} (hB : rv_BT G M0 B n lim m bt ha hd ns rs sx T) (hS : rv_R M0 n lim m bt ha hd ns rs sx (T q) PL WA OA TO BI nm b g z r M) (hb : rv_pb PL) (hbb : PL 4 ≤ b) (hk1 : (T q).1 = 1) (hw : rv_wo (T q).2.2.2.1) (h : sp_find nm (PL 4) (T q).2.2.2.1 (fun r => Q (some (.inl r)) G M)) : ∀ f i : Nat, PL 4 ≤ ((i + f : Nat) : Int) → (i : Int) ≤ PL 4 → (∀ j, j < i → nm j ≠ (T q).2.2.2.1) → ∀ cb sb, wz d mt_X12_find.2.2.2.2.1 Q (mt_X12_find.2.2.2.2.1.drop 2) [some (.inr (.inr (some m))), some (.inl 8), some (.inl (PL 4)), some (.inl (i : Int))] [] G M cb sb := by
  obtain ⟨⟨gm, gbt, gha, ghd, gns, grs, r1, r7, r23, r9, r10, rb, rr, n1, n2, gsx, r6⟩, hT⟩ := id hB
  obtain ⟨b1, b2, b3, b4⟩ := hb
  have sh : ∀ (i : Nat), (i : Int) ≤ PL 4 → (∀ j, j < i → nm j ≠ (T q).2.2.2.1) → (∀ cb sb, (i : Int) < PL 4 → nm i ≠ (T q).2.2.2.1 → wz d mt_X12_find.2.2.2.2.1 Q (mt_X12_find.2.2.2.2.1.drop 2) [some (.inr (.inr (some m))), some (.inl 8), some (.inl (PL 4)), some (.inl ((i : Int) + 1))] [] G M cb sb) → ∀ cb sb, wz d mt_X12_find.2.2.2.2.1 Q (mt_X12_find.2.2.2.2.1.drop 2) [some (.inr (.inr (some m))), some (.inl 8), some (.inl (PL 4)), some (.inl (i : Int))] [] G M cb sb := by
    intro i g2 g3 go cb sb
    refine w_iln rfl ?_
    refine w_iln rfl ?_
    refine w_cmge (fun c => ?_) (fun c => ?_)
    · refine w_ic ?_
      exact w_iret (fun q => by cases q) (h.2 (fun j hj => g3 j (by omega)))
    · refine w_aln rfl ?_
      refine w_gr gm rfl (by decide) rfl (by rw [hS.2.2.2.2.2.1]; exact r9) ?_
      refine w_iln rfl ?_
      refine w_iln rfl ?_
      refine w_add ⟨by omega, by omega⟩ ?_
      refine w_lald (v := rv_8 (nm i)) gns rfl (by omega) (by show (8 : Int) + (i : Int) < ((16 : Nat) : Int); omega) (by rw [show ((8 : Int) + (i : Int)).toNat = 8 + i by omega]; exact (hS.2.2.2.2.1 i (by omega)).1) ?_
      refine w_aln rfl ?_
      refine w_gl gm rfl (by decide) rfl (hS.2.1.2.2.1 hk1) ?_
      refine w_lcmp ?_
      intro z hz ez
      have qz := rv_cmp ez
      refine w_ifne (fun c2 => ?_) (fun c2 => ?_)
      · refine w_ii rfl ⟨by omega, by omega⟩ ?_
        refine w_goto ?_
        exact go _ _ c (fun e => qz.2 c2 (by rw [e]))
      · refine w_iln rfl ?_
        exact w_iret (fun q => by cases q) (h.1 i c (rv_8i (hS.2.2.2.2.1 i (by omega)).2 hw (qz.1 c2)) g3)
  intro f
  induction f with
  | zero => intro i g1 g2 g3 cb sb; exact sh i g2 g3 (fun cb sb c _ => by exfalso; omega) cb sb
  | succ f ih =>
    intro i g1 g2 g3 cb sb
    exact sh i g2 g3 (fun cb sb c c2 => ih (i + 1) (by omega) (by omega) (fun j hj => by
      rcases Nat.lt_or_ge j i with q | q
      · exact g3 j q
      · rw [show j = i by omega]; exact c2) cb sb) cb sb
theorem r_X12_find2 {G : mj_G} {M0 M : mj_M} {B : Nat → Int} {n lim m bt ha hd ns rs sx : Nat} {T : Nat → Nat × Nat × Int × List Int × Nat} {PL WA OA : Nat → Int} {TO BI : Nat → Nat → Int} {nm : Nat → List Int} {b g z r : Int} {Q : mj_P} {d q : Nat} (hB : rv_BT G M0 B n lim m bt ha hd ns rs sx T) (hS : rv_R M0 n lim m bt ha hd ns rs sx (T q) PL WA OA TO BI nm b g z r M) (hb : rv_pb PL) (hbb : PL 4 ≤ b) (hk1 : (T q).1 = 1) (hw : rv_wo (T q).2.2.2.1) (h : sp_find nm (PL 4) (T q).2.2.2.1 (fun r => Q (some (.inl r)) G M)) : mj_R mj_tab (d + 1) 188 [.inr (.inr (some m)), .inl 8, .inl (PL 4)] G M Q := by
  refine ⟨Nat.le_of_ble_eq_true rfl, ?_⟩
  show wz d mt_X12_find.2.2.2.2.1 Q mt_X12_find.2.2.2.2.1 [some (.inr (.inr (some m))), some (.inl 8), some (.inl (PL 4)), none] [] G M _ _
  refine w_ic ?_
  refine w_isn ?_
  exact r_findR hB hS hb hbb hk1 hw h 8 0 (by have := hb.2.1; omega) hb.1 (fun j hj => absurd hj (Nat.not_lt_zero j)) _ _
theorem r_X12_takes2 {G : mj_G} {M0 M : mj_M} {B : Nat → Int} {n lim m bt ha hd ns rs sx : Nat} {T : Nat → Nat × Nat × Int × List Int × Nat} {PL WA OA : Nat → Int} {TO BI : Nat → Nat → Int} {nm : Nat → List Int} {b g z r : Int} {Q : mj_P} {d q : Nat} {lo hi : Int} (hB : rv_BT G M0 B n lim m bt ha hd ns rs sx T) (hS : rv_R M0 n lim m bt ha hd ns rs sx (T q) PL WA OA TO BI nm b g z r M) (hqn : q ≤ n) (h : sp_num T lo hi q (fun f a => ∀ M', rv_FR M0 m sx ha f a M' → Q (some (.inl 0)) G M') (∀ M', rv_R M0 n lim m bt ha hd ns rs sx (T (rv_x T q)) PL WA OA TO BI nm b (T q).2.2.1 z r M' → Q (some (.inl 1)) G M')) : mj_R mj_tab (d + 3) 246 [.inr (.inr (some m)), .inl lo, .inl hi] G M Q := by
  obtain ⟨⟨gm, gbt, gha, ghd, gns, grs, r1, r7, r23, r9, r10, rb, rr, n1, n2, gsx, r6⟩, hT⟩ := id hB
  refine ⟨Nat.le_of_ble_eq_true rfl, ?_⟩
  show wz (d + 2) mt_X12_takes.2.2.2.2.1 Q mt_X12_takes.2.2.2.2.1 [some (.inr (.inr (some m))), some (.inl lo), some (.inl hi)] [] G M _ _
  refine w_aln rfl ?_
  have t1 := rv_tkc_f (rv_y_w hB hqn).1
  refine w_gi gm rfl (by decide) rfl (hS.2.1.1) ?_
  refine w_ic ?_
  refine w_cmeq (fun c2 => ?_) (fun c2 => ?_)
  · skip
    refine w_aln rfl ?_
    have nn3 := hS.2.1.2.2.2.1 (by omega)
    refine w_gi gm rfl (by decide) rfl ((hS.2.1.2.2.2.1 (by omega)).1) ?_
    refine w_iln rfl ?_
    refine w_iln rfl ?_
    refine w_cs (st := []) rfl (Nat.le_of_ble_eq_true rfl) (fun kk h => h) ⟨Nat.le_of_ble_eq_true rfl, ?_⟩
    show wz (d + 1) mt_X12_isIn.2.2.2.2.1 _ mt_X12_isIn.2.2.2.2.1 [some (.inl ((T q).2.2.1)), some (.inl lo), some (.inl hi)] [] _ _ _ _
    refine w_iln rfl ?_
    refine w_iln rfl ?_
    refine w_cmlt (fun c4 => ?_) (fun c4 => ?_)
    · skip
      refine w_ic ?_
      refine w_iret (fun _ => Or.inl rfl) ?_
      refine w_ifne (fun c5 => ?_) (fun c5 => ?_)
      · exfalso; omega
      · skip
        refine w_aln rfl ?_
        refine w_ic ?_
        have h7 := h.1 (by omega)
        clear h
        have h8 := h7.2 (by omega)
        clear h7
        refine w_cv (st := []) rfl gm rfl (Nat.le_of_ble_eq_true rfl) (fun kk h => h) (r_X12_bad2 (d := d + 1) hB hS (fun MF6 F6 => ?_))
        exact w_iret (fun _ => Or.inl rfl) (h8 _ F6)
    · skip
      refine w_iln rfl ?_
      refine w_iln rfl ?_
      refine w_cmgt (fun c9 => ?_) (fun c9 => ?_)
      · skip
        refine w_ic ?_
        refine w_iret (fun _ => Or.inl rfl) ?_
        refine w_ifne (fun c10 => ?_) (fun c10 => ?_)
        · exfalso; omega
        · skip
          refine w_aln rfl ?_
          refine w_ic ?_
          have h12 := h.1 (by omega)
          clear h
          have h13 := h12.1 (by omega)
          clear h12
          have h14 := h13.2 (by omega)
          clear h13
          refine w_cv (st := []) rfl gm rfl (Nat.le_of_ble_eq_true rfl) (fun kk h => h) (r_X12_bad2 (d := d + 1) hB hS (fun MF11 F11 => ?_))
          exact w_iret (fun _ => Or.inl rfl) (h14 _ F11)
      · skip
        refine w_ic ?_
        refine w_goto ?_
        refine w_iret (fun _ => Or.inr rfl) ?_
        refine w_ifne (fun c15 => ?_) (fun c15 => ?_)
        · skip
          refine w_aln rfl ?_
          refine w_aln rfl ?_
          have nn16 := hS.2.1.2.2.2.1 (by omega)
          refine w_gi gm rfl (by decide) rfl ((hS.2.1.2.2.2.1 (by omega)).1) ?_
          refine w_pi gm rfl (by decide) rfl (fun q => by cases q) ?_
          have s17 := hS.sgot (v := (T q).2.2.1) hB.1
          refine w_aln rfl ?_
          refine w_cv (st := []) rfl gm rfl (Nat.le_of_ble_eq_true rfl) (fun kk h => h) (r_nxtT (d := d) hB s17 (by omega) (by omega) hqn (fun Ms18 s18 => ?_))
          refine w_ic ?_
          have h19 := h.1 (by omega)
          clear h
          have h20 := h19.1 (by omega)
          clear h19
          have h21 := h20.1 (by omega)
          clear h20
          exact w_iret (fun _ => Or.inr rfl) (h21 _ s18)
        · exfalso; omega
  · skip
    refine w_aln rfl ?_
    refine w_ic ?_
    have h23 := h.2 (by omega)
    clear h
    refine w_cv (st := []) rfl gm rfl (Nat.le_of_ble_eq_true rfl) (fun kk h => h) (r_X12_bad2 (d := d + 1) hB hS (fun MF22 F22 => ?_))
    exact w_iret (fun _ => Or.inl rfl) (h23 _ F22)
theorem r_X12_sign2 {G : mj_G} {M0 M : mj_M} {B : Nat → Int} {n lim m bt ha hd ns rs sx : Nat} {T : Nat → Nat × Nat × Int × List Int × Nat} {PL WA OA : Nat → Int} {TO BI : Nat → Nat → Int} {nm : Nat → List Int} {b g z r : Int} {Q : mj_P} {d q : Nat} (hB : rv_BT G M0 B n lim m bt ha hd ns rs sx T) (hS : rv_R M0 n lim m bt ha hd ns rs sx (T q) PL WA OA TO BI nm b g z r M) (hqn : q ≤ n) (h : sp_sgn T 59 q (fun f a => ∀ M', rv_FR M0 m sx ha f a M' → Q (some (.inl 0)) G M') (∀ M', rv_R M0 n lim m bt ha hd ns rs sx (T (rv_x T q)) PL WA OA TO BI nm b g z r M' → Q (some (.inl 1)) G M')) : mj_R mj_tab (d + 3) 242 [.inr (.inr (some m)), .inl 59] G M Q := by
  obtain ⟨⟨gm, gbt, gha, ghd, gns, grs, r1, r7, r23, r9, r10, rb, rr, n1, n2, gsx, r6⟩, hT⟩ := id hB
  have hk := rv_tkc_f (rv_y_w hB hqn).1
  refine ⟨Nat.le_of_ble_eq_true rfl, ?_⟩
  show wz (d + 2) mt_X12_sign.2.2.2.2.1 Q mt_X12_sign.2.2.2.2.1 [some (.inr (.inr (some m))), some (.inl 59)] [] G M _ _
  have bad : ∀ cb sb, ¬ ((T q).1 = 3 ∧ (T q).2.2.1 = 59) → wz (d + 2) mt_X12_sign.2.2.2.2.1 Q (mt_X12_sign.2.2.2.2.1.drop 4) [some (.inr (.inr (some m))), some (.inl 59)] [] G M cb sb := by
    intro cb sb hc
    refine w_aln rfl ?_
    refine w_ic ?_
    refine w_cv (st := []) rfl gm rfl (Nat.le_of_ble_eq_true rfl) (fun kk h => h) (r_X12_bad2 (d := d + 1) hB hS (fun M' F => ?_))
    refine w_iret (fun _ => Or.inl rfl) ?_
    by_cases c1 : (T q).1 = 3
    · exact (h.1 c1).2 (fun g => hc ⟨c1, g⟩) M' F
    · exact h.2 c1 M' F
  refine w_aln rfl ?_
  refine w_iln rfl ?_
  refine w_cv (st := []) rfl gm rfl (Nat.le_of_ble_eq_true rfl) (fun kk h => h) ⟨Nat.le_of_ble_eq_true rfl, ?_⟩
  show wz (d + 1) mt_X12_isSign.2.2.2.2.1 _ mt_X12_isSign.2.2.2.2.1 [some (.inr (.inr (some m))), some (.inl 59)] [] _ _ _ _
  refine w_aln rfl ?_
  refine w_gi gm rfl (by decide) rfl hS.2.1.1 ?_
  refine w_ic ?_
  refine w_cmne (fun c => ?_) (fun c => ?_)
  · refine w_ic ?_
    refine w_iret (fun _ => Or.inl rfl) ?_
    refine w_ifne (fun c => absurd rfl c) (fun _ => ?_)
    refine bad _ _ (fun g => ?_)
    rcases rv_tkc_s g.1 with e | e
    · exact c e.1
    · exact e.2 (Or.inl g.2)
  · have e3 : (T q).1 = 3 := by omega
    refine w_aln rfl ?_
    refine w_gi gm rfl (by decide) rfl (hS.2.1.2.2.2.2.1 e3) ?_
    refine w_iln rfl ?_
    refine w_cmne (fun c2 => ?_) (fun c2 => ?_)
    · refine w_ic ?_
      refine w_iret (fun _ => Or.inl rfl) ?_
      refine w_ifne (fun c => absurd rfl c) (fun _ => ?_)
      exact bad _ _ (fun g => c2 g.2)
    · refine w_ic ?_
      refine w_goto ?_
      refine w_iret (fun _ => Or.inr rfl) ?_
      refine w_ifne (fun _ => ?_) (fun c => absurd c (by decide))
      refine w_aln rfl ?_
      refine w_cv (st := []) rfl gm rfl (Nat.le_of_ble_eq_true rfl) (fun kk h => h) (r_nxtT (d := d) hB hS (by omega) (by omega) hqn (fun M' s => ?_))
      refine w_ic ?_
      exact w_iret (fun _ => Or.inr rfl) ((h.1 e3).1 c2 M' s)
