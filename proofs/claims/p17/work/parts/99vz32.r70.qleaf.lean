/-! ===== the reference reads a text: leaf readers over what stays (laid by a program) ===== -/
def rq_A (G : mj_G) (M0 : mj_M) (B : Nat → Int) (n lim m bt ns rs : Nat) (T : Nat → Nat × Nat × Int × List Int × Nat) : Prop := (G m = (1012, 0) ∧ G bt = (50101, 940) ∧ G ns = (54103, 16) ∧ G rs = (55103, 24) ∧ M0.2.2 m 1 = some bt ∧ M0.2.2 m 9 = some ns ∧ M0.2.2 m 10 = some rs ∧ (∀ k, rv_u8 (M0.1 bt k) = B k) ∧ (∀ k, k < 24 → M0.2.1 rs k = rv_8 (rv_rs.getD k [])) ∧ n ≤ 940 ∧ lim ≤ 940 ∧ M0.1 m 3 = (n : Int) ∧ M0.1 m 5 = (lim : Int)) ∧ T = rv_T B n lim
/-- all but the token stays -/
def rq_o (M0 : mj_M) (m : Nat) (M : mj_M) : Prop := (∀ a, a ≠ m → M.1 a = M0.1 a) ∧ (∀ a, a ≠ m → M.2.1 a = M0.2.1 a) ∧ M.2.2 = M0.2.2 ∧ (∀ j, ¬ j ∈ [4, 11, 12, 13, 14, 15, 16, 18] → M.1 m j = M0.1 m j)
def rq_S (M0 : mj_M) (m : Nat) (t : Nat × Nat × Int × List Int × Nat) (M : mj_M) : Prop := rv_tq t m M ∧ rq_o M0 m M
def rq_F (M0 : mj_M) (m : Nat) (f : Int) (a : Nat) (M : mj_M) : Prop := M.1 m 15 = f ∧ M.1 m 16 = (a : Int) ∧ rq_o M0 m M
theorem rq_S.got {M0 M : mj_M} {m : Nat} {t : Nat × Nat × Int × List Int × Nat} {v : Int} (h : rq_S M0 m t M) : rq_S M0 m t (mj_p0 M m 18 v) := ⟨h.1.cg (fun k hk => hn_n (Or.inr (by omega))) rfl, fun a ha => (wz_c ha).trans (h.2.1 a ha), h.2.2.1, h.2.2.2.1, fun j hj => (hn_n (Or.inr (fun e => hj (by rw [e]; decide)))).trans (h.2.2.2.2 j hj)⟩
/-- a write elsewhere goes to what stays, too -/
theorem rq_S.put {M0 M : mj_M} {m a j : Nat} {v : Int} {t : Nat × Nat × Int × List Int × Nat} (h : rq_S M0 m t M) (ha : a ≠ m) : rq_S (mj_p0 M0 a j v) m t (mj_p0 M a j v) := ⟨h.1.cg (fun k _ => hn_n (Or.inl ha.symm)) rfl, fun b hb => by
    by_cases c : b = a
    · rw [c, wz_u, wz_u, h.2.1 a ha]
    · rw [wz_c c, wz_c c]; exact h.2.1 b hb, h.2.2.1, h.2.2.2.1, fun k hk => (hn_n (Or.inl ha.symm)).trans ((h.2.2.2.2 k hk).trans (hn_n (Or.inl ha.symm)).symm)⟩
theorem rq_S.putm {M0 M : mj_M} {m j : Nat} {v : Int} {t : Nat × Nat × Int × List Int × Nat} (h : rq_S M0 m t M) (hj : ¬ j ∈ [4, 11, 12, 14]) : rq_S (mj_p0 M0 m j v) m t (mj_p0 M m j v) := ⟨h.1.cg (fun k hk => hn_n (Or.inr (fun e => hj (by rw [← e]; rcases hk with e | e | e | e <;> rw [e] <;> decide)))) rfl, fun b hb => (wz_c hb).trans ((h.2.1 b hb).trans (wz_c hb).symm), h.2.2.1, h.2.2.2.1, fun k hk => by
    by_cases c : k = j
    · rw [c]; exact hn_s.trans hn_s.symm
    · exact (hn_n (Or.inr c)).trans ((h.2.2.2.2 k hk).trans (hn_n (Or.inr c)).symm)⟩
theorem rq_A.put {G : mj_G} {M0 : mj_M} {B : Nat → Int} {n lim m bt ns rs a j : Nat} {v : Int} {T : Nat → Nat × Nat × Int × List Int × Nat} (hB : rq_A G M0 B n lim m bt ns rs T) (h1 : a ≠ m) (h2 : a ≠ bt) : rq_A G (mj_p0 M0 a j v) B n lim m bt ns rs T := by
  obtain ⟨⟨gm, gbt, gns, grs, r1, r9, r10, rb, rr, n1, n2, m3, m5⟩, hT⟩ := id hB
  exact ⟨⟨gm, gbt, gns, grs, r1, r9, r10, fun k => by rw [wz_c h2.symm]; exact rb k, rr, n1, n2, (hn_n (Or.inl h1.symm)).trans m3, (hn_n (Or.inl h1.symm)).trans m5⟩, hT⟩
theorem rq_A.putm {G : mj_G} {M0 : mj_M} {B : Nat → Int} {n lim m bt ns rs j : Nat} {v : Int} {T : Nat → Nat × Nat × Int × List Int × Nat} (hB : rq_A G M0 B n lim m bt ns rs T) (h3 : j ≠ 3) (h5 : j ≠ 5) : rq_A G (mj_p0 M0 m j v) B n lim m bt ns rs T := by
  obtain ⟨⟨gm, gbt, gns, grs, r1, r9, r10, rb, rr, n1, n2, m3, m5⟩, hT⟩ := id hB
  exact ⟨⟨gm, gbt, gns, grs, r1, r9, r10, fun k => by rw [wz_c (hn_ne gbt gm (by decide))]; exact rb k, rr, n1, n2, (hn_n (Or.inr h3.symm)).trans m3, (hn_n (Or.inr h5.symm)).trans m5⟩, hT⟩
theorem rq_y_w {G : mj_G} {M0 : mj_M} {B : Nat → Int} {n lim m bt ns rs : Nat} {T : Nat → Nat × Nat × Int × List Int × Nat} {q : Nat} (hB : rq_A G M0 B n lim m bt ns rs T) (h : q ≤ n) : rv_tw n q (T q) := by rw [hB.2]; exact rv_T_w h
theorem rq_y_le {G : mj_G} {M0 : mj_M} {B : Nat → Int} {n lim m bt ns rs : Nat} {T : Nat → Nat × Nat × Int × List Int × Nat} {q : Nat} (hB : rq_A G M0 B n lim m bt ns rs T) (h : q ≤ n) : rv_x T q ≤ n := (rq_y_w hB h).2.2.2.2.2
theorem rq_y_ge {G : mj_G} {M0 : mj_M} {B : Nat → Int} {n lim m bt ns rs : Nat} {T : Nat → Nat × Nat × Int × List Int × Nat} {q : Nat} (hB : rq_A G M0 B n lim m bt ns rs T) (h : q ≤ n) : q ≤ rv_x T q := (rq_y_w hB h).2.1
theorem rq_y_wo {G : mj_G} {M0 : mj_M} {B : Nat → Int} {n lim m bt ns rs : Nat} {T : Nat → Nat × Nat × Int × List Int × Nat} {q : Nat} (hB : rq_A G M0 B n lim m bt ns rs T) (h : q ≤ n) (h1 : (T q).1 = 1) : rv_wo (T q).2.2.2.1 := (rq_y_w hB h).2.2.2.2.1 h1
theorem rq_nxt0 {G : mj_G} {M0 M : mj_M} {B : Nat → Int} {n lim m bt ns rs : Nat} {T : Nat → Nat × Nat × Int × List Int × Nat} {Q : mj_P} {d q : Nat} (hB : rq_A G M0 B n lim m bt ns rs T) (ht : M.1 m 4 = (q : Int)) (ho : rq_o M0 m M) (hq : q ≤ n) (hQ : ∀ M', rq_S M0 m (T q) M' → M'.1 m 18 = M.1 m 18 → Q none G M') : mj_R mj_tab (d + 2) 216 [.inr (.inr (some m))] G M Q := by
  obtain ⟨⟨gm, gbt, gns, grs, r1, r9, r10, rb, rr, n1, n2, m3, m5⟩, hT⟩ := id hB
  refine r_X12_next (d := d) (B := B) (n := n) (lim := lim) (p := q) gm gbt n1 (by rw [ho.2.2.1]; exact r1) ((ho.2.2.2 3 (by decide)).trans m3) ((ho.2.2.2 5 (by decide)).trans m5) ht (fun k => by rw [ho.1 bt (hn_ne gbt gm (by decide))]; exact rb k) (fun M' hM => hQ M' ?_ ?_)
  · obtain ⟨o1, o2, o3, -⟩ := id hM
    have oc : ∀ a, a ≠ m → M'.1 a = M.1 a := fun a ha => funext fun k => o1 a k (fun e => ha e.1)
    have om : ∀ k, ¬ k ∈ [4, 11, 12, 13, 14] → M'.1 m k = M.1 m k := fun k hk => o1 m k (fun e => hk e.2)
    have ol : ∀ a, a ≠ m → M'.2.1 a = M.2.1 a := fun a ha => funext fun k => o2 a k (fun e => ha e.1)
    refine ⟨by rw [hT]; exact rv_tq_of (rv_T_w hq).1 (rv_nx_T hq hM), fun a ha => (oc a ha).trans (ho.1 a ha), fun a ha => (ol a ha).trans (ho.2.1 a ha), o3.trans ho.2.2.1, fun j hj => (om j (fun e => hj ?_)).trans (ho.2.2.2 j hj)⟩
    simp only [List.mem_cons, List.not_mem_nil, or_false] at e ⊢
    omega
  · exact hM.1 m 18 (fun e => absurd e.2 (by decide))
theorem rq_nxtT {G : mj_G} {M0 M : mj_M} {B : Nat → Int} {n lim m bt ns rs : Nat} {T : Nat → Nat × Nat × Int × List Int × Nat} {Q : mj_P} {d q : Nat} (hB : rq_A G M0 B n lim m bt ns rs T) (h : rq_S M0 m (T q) M) (hk : (T q).1 ≠ 0) (hk5 : (T q).1 ≠ 5) (hq : q ≤ n) (hQ : ∀ M', rq_S M0 m (T (rv_x T q)) M' → M'.1 m 18 = M.1 m 18 → Q none G M') : mj_R mj_tab (d + 2) 216 [.inr (.inr (some m))] G M Q := rq_nxt0 hB (h.1.2.2.2.2.2 hk hk5) h.2 (rq_y_le hB hq) hQ
theorem rq_bad {G : mj_G} {M0 M : mj_M} {B : Nat → Int} {n lim m bt ns rs : Nat} {T : Nat → Nat × Nat × Int × List Int × Nat} {Q : mj_P} {d : Nat} {f : Int} {t : Nat × Nat × Int × List Int × Nat} (hB : rq_A G M0 B n lim m bt ns rs T) (hS : rq_S M0 m t M) (hQ : ∀ M', rq_F M0 m f t.2.1 M' → Q (some (.inl 0)) G M') : mj_R mj_tab (d + 1) 161 [.inr (.inr (some m)), .inl f] G M Q := by
  have gm := hB.1.1
  refine ⟨Nat.le_of_ble_eq_true rfl, ?_⟩
  show wz d mt_X12_bad.2.2.2.2.1 Q mt_X12_bad.2.2.2.2.1 [some (.inr (.inr (some m))), some (.inl f)] [] G M _ _
  refine w_aln rfl ?_
  refine w_iln rfl ?_
  refine w_pi gm rfl (by decide) rfl (fun q => by cases q) ?_
  refine w_aln rfl ?_
  refine w_aln rfl ?_
  refine w_gi gm rfl (by decide) rfl rfl ?_
  refine w_pi gm rfl (by decide) rfl (fun q => by cases q) ?_
  refine w_ic ?_
  refine w_iret (fun _ => Or.inl rfl) (hQ _ ⟨(hn_n (Or.inr (by decide))).trans hn_s, hn_s.trans ((hn_n (Or.inr (by decide))).trans hS.1.2.1), fun a ha => (wz_c ha).trans ((wz_c ha).trans (hS.2.1 a ha)), hS.2.2.1, hS.2.2.2.1, fun j hj => ?_⟩)
  exact (hn_n (Or.inr (fun e => hj (by rw [e]; decide)))).trans ((hn_n (Or.inr (fun e => hj (by rw [e]; decide)))).trans (hS.2.2.2.2 j hj))
theorem rq_isWord1 {G : mj_G} {M0 M : mj_M} {B : Nat → Int} {n lim m bt ns rs : Nat} {T : Nat → Nat × Nat × Int × List Int × Nat} {Q : mj_P} {d q : Nat} {i : Nat} {W : Int64} (hB : rq_A G M0 B n lim m bt ns rs T) (hS : rq_S M0 m (T q) M) (hqn : q ≤ n) (hi : i < 24) (hW : rv_8 (rv_rs.getD i []) = W) (hc : ((T q).1 = 1 ∧ rv_rs.getD i [] = (T q).2.2.2.1)) (hQ : Q (some (.inl 1)) G M) : mj_R mj_tab (d + 1) 206 [.inr (.inr (some m)), .inr (.inl W)] G M Q := by
  obtain ⟨⟨gm, gbt, gns, grs, r1, r9, r10, rb, rr, n1, n2, m3, m5⟩, hT⟩ := id hB
  have hk := rv_tkc_f (rq_y_w hB hqn).1
  refine ⟨Nat.le_of_ble_eq_true rfl, ?_⟩
  show wz d mt_X12_isWord.2.2.2.2.1 Q mt_X12_isWord.2.2.2.2.1 [some (.inr (.inr (some m))), some (.inr (.inl W)), none] [] G M _ _
  refine w_aln rfl ?_
  refine w_gi gm rfl (by decide) rfl hS.1.1 ?_
  refine w_ic ?_
  have h1 := hc.1
  refine w_cmne (fun c => by exfalso; omega) (fun c => ?_)
  refine w_aln rfl ?_
  refine w_gl gm rfl (by decide) rfl (hS.1.2.2.1 h1) ?_
  refine w_lln rfl ?_
  refine w_lcmp ?_
  intro z hz ez
  have qz := rv_cmp ez
  refine w_ifne (fun c2 => absurd (by rw [← hW, hc.2]) (qz.2 c2)) (fun c2 => ?_)
  refine w_ic ?_
  refine w_goto ?_
  exact w_iret (fun _ => Or.inr rfl) hQ
theorem rq_isWord0 {G : mj_G} {M0 M : mj_M} {B : Nat → Int} {n lim m bt ns rs : Nat} {T : Nat → Nat × Nat × Int × List Int × Nat} {Q : mj_P} {d q : Nat} {i : Nat} {W : Int64} (hB : rq_A G M0 B n lim m bt ns rs T) (hS : rq_S M0 m (T q) M) (hqn : q ≤ n) (hi : i < 24) (hW : rv_8 (rv_rs.getD i []) = W) (hc : ¬ ((T q).1 = 1 ∧ rv_rs.getD i [] = (T q).2.2.2.1)) (hQ : Q (some (.inl 0)) G M) : mj_R mj_tab (d + 1) 206 [.inr (.inr (some m)), .inr (.inl W)] G M Q := by
  obtain ⟨⟨gm, gbt, gns, grs, r1, r9, r10, rb, rr, n1, n2, m3, m5⟩, hT⟩ := id hB
  have hk := rv_tkc_f (rq_y_w hB hqn).1
  refine ⟨Nat.le_of_ble_eq_true rfl, ?_⟩
  show wz d mt_X12_isWord.2.2.2.2.1 Q mt_X12_isWord.2.2.2.2.1 [some (.inr (.inr (some m))), some (.inr (.inl W)), none] [] G M _ _
  refine w_aln rfl ?_
  refine w_gi gm rfl (by decide) rfl hS.1.1 ?_
  refine w_ic ?_
  refine w_cmne (fun c => ?_) (fun c => ?_)
  · refine w_ic ?_
    exact w_iret (fun _ => Or.inl rfl) hQ
  · have h1 : (T q).1 = 1 := by omega
    refine w_aln rfl ?_
    refine w_gl gm rfl (by decide) rfl (hS.1.2.2.1 h1) ?_
    refine w_lln rfl ?_
    refine w_lcmp ?_
    intro z hz ez
    have qz := rv_cmp ez
    refine w_ifne (fun c2 => ?_) (fun c2 => absurd ⟨h1, rv_8i (rv_rs_o i hi) (rq_y_wo hB hqn h1) (hW.trans (qz.1 c2).symm)⟩ hc)
    refine w_ic ?_
    exact w_iret (fun _ => Or.inl rfl) hQ
theorem rq_isName1 {G : mj_G} {M0 M : mj_M} {B : Nat → Int} {n lim m bt ns rs : Nat} {T : Nat → Nat × Nat × Int × List Int × Nat} {Q : mj_P} {d q : Nat} (hB : rq_A G M0 B n lim m bt ns rs T) (hS : rq_S M0 m (T q) M) (hqn : q ≤ n) (h1 : (T q).1 = 1 → rv_nam (T q).2.2.2.1 → Q (some (.inl 1)) G M) (h0 : ¬ ((T q).1 = 1 ∧ rv_nam (T q).2.2.2.1) → Q (some (.inl 0)) G M) : ∀ (f k : Nat) (y : Int) (cb sb : Nat), k + f = 24 → ((y = 1 ∧ (T q).1 = 1 ∧ ∀ j, j < k → rv_rs.getD j [] ≠ (T q).2.2.2.1) ∨ (y = 0 ∧ ¬ ((T q).1 = 1 ∧ ∀ j, j < k → rv_rs.getD j [] ≠ (T q).2.2.2.1))) → wz d mt_X12_isName.2.2.2.2.1 Q (mt_X12_isName.2.2.2.2.1.drop 10) [some (.inr (.inr (some m))), some (.inl y), some (.inl (k : Int))] [] G M cb sb := by
  obtain ⟨⟨gm, gbt, gns, grs, r1, r9, r10, rb, rr, n1, n2, m3, m5⟩, hT⟩ := id hB
  intro f
  induction f with
  | zero =>
    intro k y cb sb hk hy
    have e : k = 24 := by omega
    subst e
    refine w_iln rfl ?_
    refine w_bp ?_
    refine w_cmge (fun c => ?_) (fun c => by exfalso; omega)
    refine w_iln rfl ?_
    rcases hy with ⟨e, a1, a2⟩ | ⟨e, a1⟩
    · rw [e]; exact w_iret (fun _ => Or.inr rfl) (h1 a1 a2)
    · rw [e]; exact w_iret (fun _ => Or.inl rfl) (h0 a1)
  | succ f ih =>
    intro k y cb sb hk hy
    have hk24 : k < 24 := by omega
    refine w_iln rfl ?_
    refine w_bp ?_
    refine w_cmge (fun c => by exfalso; omega) (fun c => ?_)
    refine w_iln rfl ?_
    refine w_ifeq (fun c2 => ?_) (fun c2 => ?_)
    · refine w_ic ?_
      refine w_isn ?_
      refine w_ii rfl ⟨by omega, by omega⟩ ?_
      refine w_goto ?_
      refine ih (k + 1) 0 _ _ (by omega) (Or.inr ⟨rfl, fun g => ?_⟩)
      rcases hy with ⟨e, a1, a2⟩ | ⟨e, a1⟩
      · omega
      · exact a1 ⟨g.1, fun j hj => g.2 j (by omega)⟩
    · rcases hy with ⟨e, a1, a2⟩ | ⟨e, a1⟩
      · refine w_aln rfl ?_
        refine w_gl gm rfl (by decide) rfl (hS.1.2.2.1 a1) ?_
        refine w_aln rfl ?_
        refine w_gr gm rfl (by decide) rfl (by rw [hS.2.2.2.1]; exact r10) ?_
        refine w_iln rfl ?_
        refine w_lald (v := rv_8 (rv_rs.getD k [])) grs rfl (by omega) (by show (k : Int) < ((24 : Nat) : Int); omega) (by rw [(hS.2.2.1 rs (hn_ne grs gm (by decide)))]; exact rr k hk24) ?_
        refine w_lcmp ?_
        intro z hz ez
        have qz := rv_cmp ez
        refine w_ifeq (fun c3 => ?_) (fun c3 => ?_)
        · refine w_ic ?_
          refine w_isn ?_
          refine w_ii rfl ⟨by omega, by omega⟩ ?_
          refine w_goto ?_
          exact ih (k + 1) 0 _ _ (by omega) (Or.inr ⟨rfl, fun g => g.2 k (by omega) (rv_8i (rv_rs_o k hk24) (rq_y_wo hB hqn a1) (qz.1 c3).symm)⟩)
        · refine w_ic ?_
          refine w_goto ?_
          refine w_isn ?_
          refine w_ii rfl ⟨by omega, by omega⟩ ?_
          refine w_goto ?_
          refine ih (k + 1) 1 _ _ (by omega) (Or.inl ⟨rfl, a1, fun j hj e => ?_⟩)
          rcases Nat.lt_or_ge j k with q1 | q1
          · exact a2 j q1 e
          · have ej : j = k := by omega
            rw [ej] at e
            exact qz.2 c3 (by rw [e])
      · omega
theorem rq_isName {G : mj_G} {M0 M : mj_M} {B : Nat → Int} {n lim m bt ns rs : Nat} {T : Nat → Nat × Nat × Int × List Int × Nat} {Q : mj_P} {d q : Nat} (hB : rq_A G M0 B n lim m bt ns rs T) (hS : rq_S M0 m (T q) M) (hqn : q ≤ n) (h1 : (T q).1 = 1 → rv_nam (T q).2.2.2.1 → Q (some (.inl 1)) G M) (h0 : ¬ ((T q).1 = 1 ∧ rv_nam (T q).2.2.2.1) → Q (some (.inl 0)) G M) : mj_R mj_tab (d + 1) 201 [.inr (.inr (some m))] G M Q := by
  obtain ⟨⟨gm, gbt, gns, grs, r1, r9, r10, rb, rr, n1, n2, m3, m5⟩, hT⟩ := id hB
  have hk := rv_tkc_f (rq_y_w hB hqn).1
  refine ⟨Nat.le_of_ble_eq_true rfl, ?_⟩
  show wz d mt_X12_isName.2.2.2.2.1 Q mt_X12_isName.2.2.2.2.1 [some (.inr (.inr (some m))), none, none] [] G M _ _
  refine w_aln rfl ?_
  refine w_gi gm rfl (by decide) rfl hS.1.1 ?_
  refine w_ic ?_
  refine w_cmne (fun c => ?_) (fun c => ?_)
  · refine w_ic ?_
    refine w_isn ?_
    refine w_ic ?_
    refine w_isn ?_
    exact rq_isName1 hB hS hqn h1 h0 24 0 0 _ _ (by omega) (Or.inr ⟨rfl, fun g => by omega⟩)
  · refine w_ic ?_
    refine w_goto ?_
    refine w_isn ?_
    refine w_ic ?_
    refine w_isn ?_
    exact rq_isName1 hB hS hqn h1 h0 24 0 1 _ _ (by omega) (Or.inl ⟨rfl, by omega, fun j hj => absurd hj (Nat.not_lt_zero j)⟩)
theorem rq_findR {G : mj_G} {M0 M : mj_M} {B : Nat → Int} {n lim m bt ns rs : Nat} {T : Nat → Nat × Nat × Int × List Int × Nat} {Q : mj_P} {d q : Nat} (hB : rq_A G M0 B n lim m bt ns rs T) (hS : rq_S M0 m (T q) M) {nm : Nat → List Int} {c0 : Int} (c1 : 0 ≤ c0) (c2 : c0 ≤ 8) (hN : ∀ k : Nat, (k : Int) < c0 → M0.2.1 ns k = rv_8 (nm k) ∧ rv_wo (nm k)) (hk1 : (T q).1 = 1) (hw : rv_wo (T q).2.2.2.1) (h : sp_find nm (c0) (T q).2.2.2.1 (fun r => Q (some (.inl r)) G M)) : ∀ f i : Nat, c0 ≤ ((i + f : Nat) : Int) → (i : Int) ≤ c0 → (∀ j, j < i → nm j ≠ (T q).2.2.2.1) → ∀ cb sb, wz d mt_X12_find.2.2.2.2.1 Q (mt_X12_find.2.2.2.2.1.drop 2) [some (.inr (.inr (some m))), some (.inl 0), some (.inl (c0)), some (.inl (i : Int))] [] G M cb sb := by
  obtain ⟨⟨gm, gbt, gns, grs, r1, r9, r10, rb, rr, n1, n2, m3, m5⟩, hT⟩ := id hB
  have sh : ∀ (i : Nat), (i : Int) ≤ c0 → (∀ j, j < i → nm j ≠ (T q).2.2.2.1) → (∀ cb sb, (i : Int) < c0 → nm i ≠ (T q).2.2.2.1 → wz d mt_X12_find.2.2.2.2.1 Q (mt_X12_find.2.2.2.2.1.drop 2) [some (.inr (.inr (some m))), some (.inl 0), some (.inl (c0)), some (.inl ((i : Int) + 1))] [] G M cb sb) → ∀ cb sb, wz d mt_X12_find.2.2.2.2.1 Q (mt_X12_find.2.2.2.2.1.drop 2) [some (.inr (.inr (some m))), some (.inl 0), some (.inl (c0)), some (.inl (i : Int))] [] G M cb sb := by
    intro i g2 g3 go cb sb
    refine w_iln rfl ?_
    refine w_iln rfl ?_
    refine w_cmge (fun c => ?_) (fun c => ?_)
    · refine w_ic ?_
      exact w_iret (fun q => by cases q) (h.2 (fun j hj => g3 j (by omega)))
    · refine w_aln rfl ?_
      refine w_gr gm rfl (by decide) rfl (by rw [hS.2.2.2.1]; exact r9) ?_
      refine w_iln rfl ?_
      refine w_iln rfl ?_
      refine w_add ⟨by omega, by omega⟩ ?_
      refine w_lald (v := rv_8 (nm i)) gns rfl (by omega) (by show (0 : Int) + (i : Int) < ((16 : Nat) : Int); omega) (by rw [show ((0 : Int) + (i : Int)).toNat = i by omega]; exact (congrFun (hS.2.2.1 ns (hn_ne gns gm (by decide))) _).trans (hN i (by omega)).1) ?_
      refine w_aln rfl ?_
      refine w_gl gm rfl (by decide) rfl (hS.1.2.2.1 hk1) ?_
      refine w_lcmp ?_
      intro z hz ez
      have qz := rv_cmp ez
      refine w_ifne (fun c3 => ?_) (fun c3 => ?_)
      · refine w_ii rfl ⟨by omega, by omega⟩ ?_
        refine w_goto ?_
        exact go _ _ c (fun e => qz.2 c3 (by rw [e]))
      · refine w_iln rfl ?_
        exact w_iret (fun q => by cases q) (h.1 i c (rv_8i (hN i (by omega)).2 hw (qz.1 c3)) g3)
  intro f
  induction f with
  | zero => intro i g1 g2 g3 cb sb; exact sh i g2 g3 (fun cb sb c _ => by exfalso; omega) cb sb
  | succ f ih =>
    intro i g1 g2 g3 cb sb
    exact sh i g2 g3 (fun cb sb c c3 => ih (i + 1) (by omega) (by omega) (fun j hj => by
      rcases Nat.lt_or_ge j i with q | q
      · exact g3 j q
      · rw [show j = i by omega]; exact c3) cb sb) cb sb
theorem rq_find {G : mj_G} {M0 M : mj_M} {B : Nat → Int} {n lim m bt ns rs : Nat} {T : Nat → Nat × Nat × Int × List Int × Nat} {Q : mj_P} {d q : Nat} {nm : Nat → List Int} {c0 : Int} (c1 : 0 ≤ c0) (c2 : c0 ≤ 8) (hN : ∀ k : Nat, (k : Int) < c0 → M0.2.1 ns k = rv_8 (nm k) ∧ rv_wo (nm k)) (hB : rq_A G M0 B n lim m bt ns rs T) (hS : rq_S M0 m (T q) M) (hk1 : (T q).1 = 1) (hw : rv_wo (T q).2.2.2.1) (h : sp_find nm c0 (T q).2.2.2.1 (fun r => Q (some (.inl r)) G M)) : mj_R mj_tab (d + 1) 188 [.inr (.inr (some m)), .inl 0, .inl c0] G M Q := by
  refine ⟨Nat.le_of_ble_eq_true rfl, ?_⟩
  show wz d mt_X12_find.2.2.2.2.1 Q mt_X12_find.2.2.2.2.1 [some (.inr (.inr (some m))), some (.inl 0), some (.inl c0), none] [] G M _ _
  refine w_ic ?_
  refine w_isn ?_
  exact rq_findR hB hS c1 c2 hN hk1 hw h 8 0 (by omega) c1 (fun j hj => absurd hj (Nat.not_lt_zero j)) _ _
theorem rq_takes {G : mj_G} {M0 M : mj_M} {B : Nat → Int} {n lim m bt ns rs : Nat} {T : Nat → Nat × Nat × Int × List Int × Nat} {Q : mj_P} {d q : Nat} {lo hi : Int} (hB : rq_A G M0 B n lim m bt ns rs T) (hS : rq_S M0 m (T q) M) (hqn : q ≤ n) (h : sp_num T lo hi q (fun f a => ∀ M', rq_F M0 m f a M' → Q (some (.inl 0)) G M') (∀ M', rq_S M0 m (T (rv_x T q)) M' → M'.1 m 18 = (T q).2.2.1 → Q (some (.inl 1)) G M')) : mj_R mj_tab (d + 3) 246 [.inr (.inr (some m)), .inl lo, .inl hi] G M Q := by
  obtain ⟨⟨gm, gbt, gns, grs, r1, r9, r10, rb, rr, n1, n2, m3, m5⟩, hT⟩ := id hB
  refine ⟨Nat.le_of_ble_eq_true rfl, ?_⟩
  show wz (d + 2) mt_X12_takes.2.2.2.2.1 Q mt_X12_takes.2.2.2.2.1 [some (.inr (.inr (some m))), some (.inl lo), some (.inl hi)] [] G M _ _
  refine w_aln rfl ?_
  have t1 := rv_tkc_f (rq_y_w hB hqn).1
  refine w_gi gm rfl (by decide) rfl (hS.1.1) ?_
  refine w_ic ?_
  refine w_cmeq (fun c2 => ?_) (fun c2 => ?_)
  · skip
    refine w_aln rfl ?_
    have nn3 := hS.1.2.2.2.1 (by omega)
    refine w_gi gm rfl (by decide) rfl ((hS.1.2.2.2.1 (by omega)).1) ?_
    refine w_iln rfl ?_
    refine w_iln rfl ?_
    refine w_cs (st := []) rfl (Nat.le_of_ble_eq_true rfl) (fun kk h => h) ⟨Nat.le_of_ble_eq_true rfl, ?_⟩
    show wz (d + 1) mt_X12_isIn.2.2.2.2.1 _ mt_X12_isIn.2.2.2.2.1 [some (.inl ((T q).2.2.1)), some (.inl lo), some (.inl hi)] [] _ _ _ _
    refine w_iln rfl ?_
    refine w_iln rfl ?_
    refine w_cmlt (fun c4 => ?_) (fun c4 => ?_)
    · skip
      refine w_ic ?_
      refine w_iret (fun _ => Or.inl rfl) ?_
      refine w_ifne (fun c5 => ?_) (fun c5 => ?_)
      · exfalso; omega
      · skip
        refine w_aln rfl ?_
        refine w_ic ?_
        have h7 := h.1 (by omega)
        clear h
        have h8 := h7.2 (by omega)
        clear h7
        refine w_cv (st := []) rfl gm rfl (Nat.le_of_ble_eq_true rfl) (fun kk h => h) (rq_bad (d := d + 1) hB hS (fun MF6 F6 => ?_))
        exact w_iret (fun _ => Or.inl rfl) (h8 _ F6)
    · skip
      refine w_iln rfl ?_
      refine w_iln rfl ?_
      refine w_cmgt (fun c9 => ?_) (fun c9 => ?_)
      · skip
        refine w_ic ?_
        refine w_iret (fun _ => Or.inl rfl) ?_
        refine w_ifne (fun c10 => ?_) (fun c10 => ?_)
        · exfalso; omega
        · skip
          refine w_aln rfl ?_
          refine w_ic ?_
          have h12 := h.1 (by omega)
          clear h
          have h13 := h12.1 (by omega)
          clear h12
          have h14 := h13.2 (by omega)
          clear h13
          refine w_cv (st := []) rfl gm rfl (Nat.le_of_ble_eq_true rfl) (fun kk h => h) (rq_bad (d := d + 1) hB hS (fun MF11 F11 => ?_))
          exact w_iret (fun _ => Or.inl rfl) (h14 _ F11)
      · skip
        refine w_ic ?_
        refine w_goto ?_
        refine w_iret (fun _ => Or.inr rfl) ?_
        refine w_ifne (fun c15 => ?_) (fun c15 => ?_)
        · skip
          refine w_aln rfl ?_
          refine w_aln rfl ?_
          have nn16 := hS.1.2.2.2.1 (by omega)
          refine w_gi gm rfl (by decide) rfl ((hS.1.2.2.2.1 (by omega)).1) ?_
          refine w_pi gm rfl (by decide) rfl (fun q => by cases q) ?_
          have s17 := hS.got (v := (T q).2.2.1)
          refine w_aln rfl ?_
          refine w_cv (st := []) rfl gm rfl (Nat.le_of_ble_eq_true rfl) (fun kk h => h) (rq_nxtT (d := d) hB s17 (by omega) (by omega) hqn (fun Ms18 s18 gs18 => ?_))
          refine w_ic ?_
          have h19 := h.1 (by omega)
          clear h
          have h20 := h19.1 (by omega)
          clear h19
          have h21 := h20.1 (by omega)
          clear h20
          exact w_iret (fun _ => Or.inr rfl) (h21 _ s18 (gs18.trans (hn_s)))
        · exfalso; omega
  · skip
    refine w_aln rfl ?_
    refine w_ic ?_
    have h23 := h.2 (by omega)
    clear h
    refine w_cv (st := []) rfl gm rfl (Nat.le_of_ble_eq_true rfl) (fun kk h => h) (rq_bad (d := d + 1) hB hS (fun MF22 F22 => ?_))
    exact w_iret (fun _ => Or.inl rfl) (h23 _ F22)
theorem rq_sign {G : mj_G} {M0 M : mj_M} {B : Nat → Int} {n lim m bt ns rs : Nat} {T : Nat → Nat × Nat × Int × List Int × Nat} {Q : mj_P} {d q : Nat} (hB : rq_A G M0 B n lim m bt ns rs T) (hS : rq_S M0 m (T q) M) (hqn : q ≤ n) (h : sp_sgn T 59 q (fun f a => ∀ M', rq_F M0 m f a M' → Q (some (.inl 0)) G M') (∀ M', rq_S M0 m (T (rv_x T q)) M' → Q (some (.inl 1)) G M')) : mj_R mj_tab (d + 3) 242 [.inr (.inr (some m)), .inl 59] G M Q := by
  obtain ⟨⟨gm, gbt, gns, grs, r1, r9, r10, rb, rr, n1, n2, m3, m5⟩, hT⟩ := id hB
  have hk := rv_tkc_f (rq_y_w hB hqn).1
  refine ⟨Nat.le_of_ble_eq_true rfl, ?_⟩
  show wz (d + 2) mt_X12_sign.2.2.2.2.1 Q mt_X12_sign.2.2.2.2.1 [some (.inr (.inr (some m))), some (.inl 59)] [] G M _ _
  have bad : ∀ cb sb, ¬ ((T q).1 = 3 ∧ (T q).2.2.1 = 59) → wz (d + 2) mt_X12_sign.2.2.2.2.1 Q (mt_X12_sign.2.2.2.2.1.drop 4) [some (.inr (.inr (some m))), some (.inl 59)] [] G M cb sb := by
    intro cb sb hc
    refine w_aln rfl ?_
    refine w_ic ?_
    refine w_cv (st := []) rfl gm rfl (Nat.le_of_ble_eq_true rfl) (fun kk h => h) (rq_bad (d := d + 1) hB hS (fun M' F => ?_))
    refine w_iret (fun _ => Or.inl rfl) ?_
    by_cases c1 : (T q).1 = 3
    · exact (h.1 c1).2 (fun g => hc ⟨c1, g⟩) M' F
    · exact h.2 c1 M' F
  refine w_aln rfl ?_
  refine w_iln rfl ?_
  refine w_cv (st := []) rfl gm rfl (Nat.le_of_ble_eq_true rfl) (fun kk h => h) ⟨Nat.le_of_ble_eq_true rfl, ?_⟩
  show wz (d + 1) mt_X12_isSign.2.2.2.2.1 _ mt_X12_isSign.2.2.2.2.1 [some (.inr (.inr (some m))), some (.inl 59)] [] _ _ _ _
  refine w_aln rfl ?_
  refine w_gi gm rfl (by decide) rfl hS.1.1 ?_
  refine w_ic ?_
  refine w_cmne (fun c => ?_) (fun c => ?_)
  · refine w_ic ?_
    refine w_iret (fun _ => Or.inl rfl) ?_
    refine w_ifne (fun c => absurd rfl c) (fun _ => ?_)
    refine bad _ _ (fun g => ?_)
    rcases rv_tkc_s g.1 with e | e
    · exact c e.1
    · exact e.2 (Or.inl g.2)
  · have e3 : (T q).1 = 3 := by omega
    refine w_aln rfl ?_
    refine w_gi gm rfl (by decide) rfl (hS.1.2.2.2.2.1 e3) ?_
    refine w_iln rfl ?_
    refine w_cmne (fun c2 => ?_) (fun c2 => ?_)
    · refine w_ic ?_
      refine w_iret (fun _ => Or.inl rfl) ?_
      refine w_ifne (fun c => absurd rfl c) (fun _ => ?_)
      exact bad _ _ (fun g => c2 g.2)
    · refine w_ic ?_
      refine w_goto ?_
      refine w_iret (fun _ => Or.inr rfl) ?_
      refine w_ifne (fun _ => ?_) (fun c => absurd c (by decide))
      refine w_aln rfl ?_
      refine w_cv (st := []) rfl gm rfl (Nat.le_of_ble_eq_true rfl) (fun kk h => h) (rq_nxtT (d := d) hB hS (by omega) (by omega) hqn (fun M' s _ => ?_))
      refine w_ic ?_
      exact w_iret (fun _ => Or.inr rfl) ((h.1 e3).1 c2 M' s)
