section
/-! ===== the reference reads a SENTENCE: leaves ===== -/
/-- the reference's number of a code -/
def se_k (w : Nat) : Int := if w < 15 then 24 - (w : Int) else (w : Int) - 15
/-- the code of what is joined -/
def se_cv (x : Int) : Nat × Int × Int := (if x = 11 then 13 else 12, 0, 0)
def sr_K (M : mj_M) (sk : Nat) : List Int → Prop
  | [] => True
  | x :: S => M.1 sk S.length = x ∧ sr_K M sk S
def sr_R (m rd sk : Nat) (S : List Int) (dp iw : Int) (o : Nat) (cs : (List (Nat × Int × Int))) (M : mj_M) : Prop := M.1 m 53 = (cs.length : Int) ∧ M.1 m 54 = (o : Int) ∧ M.1 m 55 = (S.length : Int) ∧ M.1 m 56 = dp ∧ M.1 m 57 = iw ∧ (∀ j, j < cs.length → M.1 rd (3 * j) = se_k (cs.getD j (0, 0, 0)).1 ∧ M.1 rd (3 * j + 1) = (cs.getD j (0, 0, 0)).2.1 ∧ M.1 rd (3 * j + 2) = (cs.getD j (0, 0, 0)).2.2) ∧ sr_K M sk S
def sr_A (G : mj_G) (Mb : mj_M) (B : Nat → Int) (n m bt rd sk : Nat) (T : Nat → (Nat × Nat × Int × List Int × Nat)) : Prop := (G m = (1012, 0) ∧ G bt = (50101, 940) ∧ G rd = (53100, 135) ∧ G sk = (68100, 45)) ∧ (Mb.2.2 m 1 = some bt ∧ Mb.2.2 m 8 = some rd ∧ Mb.2.2 m 52 = some sk) ∧ (∀ k, rv_u8 (Mb.1 bt k) = B k) ∧ n ≤ 940 ∧ Mb.1 m 3 = (n : Int) ∧ Mb.1 m 5 = 200 ∧ T = rv_T B n 200
def sr_H (Mb : mj_M) (n m rd sk : Nat) (T : Nat → (Nat × Nat × Int × List Int × Nat)) (S : List Int) (dp iw : Int) (q o : Nat) (cs : (List (Nat × Int × Int))) (M : mj_M) : Prop := (∀ a, a ≠ m → a ≠ rd → a ≠ sk → M.1 a = Mb.1 a) ∧ M.2.2 = Mb.2.2 ∧ (∀ a, a ≠ m → M.2.1 a = Mb.2.1 a) ∧ (∀ k, ¬ k ∈ [4, 11, 12, 13, 14, 53, 54, 55, 56, 57] → M.1 m k = Mb.1 m k) ∧ rv_tq (T q) m M ∧ q ≤ n ∧ sr_R m rd sk S dp iw o cs M
def sr_F (Mb : mj_M) (m rd sk : Nat) (f : Int) (a : Nat) (M : mj_M) : Prop := M.1 m 15 = f ∧ M.1 m 16 = (a : Int) ∧ (∀ a, a ≠ m → a ≠ rd → a ≠ sk → M.1 a = Mb.1 a)
section UE
variable {G : mj_G} {Mb M M' : mj_M} {B : Nat → Int} {n m bt rd sk : Nat} {T : Nat → (Nat × Nat × Int × List Int × Nat)} {Q : mj_P} {d q : Nat} {cs cs2 : (List (Nat × Int × Int))} {o o2 w i : Nat} {z v x dp dp2 iw iw2 : Int} {S S2 P : List Int}
theorem sr_K.cg (e : ∀ j, j < S.length → M'.1 sk j = M.1 sk j) (h : sr_K M sk S) : sr_K M' sk S := by
  induction S with
  | nil => trivial
  | cons y S ih =>
    exact ⟨(e S.length (by show S.length < S.length + 1; omega)).trans h.1, ih (fun j hj => e j (by show j < S.length + 1; omega)) h.2⟩
theorem sr_H.cg (h : sr_H Mb n m rd sk T S dp iw q o cs M) (e1 : ∀ a, a ≠ m → a ≠ rd → a ≠ sk → M'.1 a = M.1 a) (e2 : M'.2 = M.2) (e3 : ∀ k, k < 53 ∨ 57 < k → M'.1 m k = M.1 m k) (r : sr_R m rd sk S2 dp2 iw2 o2 cs2 M') : sr_H Mb n m rd sk T S2 dp2 iw2 q o2 cs2 M' := by
  obtain ⟨h1, h2, h3, h4, h5, h6, -⟩ := h
  refine ⟨fun a a1 a2 a3 => (e1 a a1 a2 a3).trans (h1 a a1 a2 a3), by rw [e2]; exact h2, fun a ha => by rw [e2]; exact h3 a ha, fun k hk => (e3 k ?_).trans (h4 k hk), h5.cg (fun k hk => e3 k (by omega)) (by rw [e2]), h6, r⟩
  simp only [List.mem_cons, List.not_mem_nil, or_false] at hk
  omega
theorem sr_tw (hA : sr_A G Mb B n m bt rd sk T) (hq : q ≤ n) : rv_tw n q (T q) := by rw [hA.2.2.2.2.2.2]; exact rv_T_w hq
theorem sr_xl (hA : sr_A G Mb B n m bt rd sk T) (hq : q ≤ n) : rv_x T q ≤ n := (sr_tw hA hq).2.2.2.2.2
theorem sr_next (hA : sr_A G Mb B n m bt rd sk T) (h : sr_H Mb n m rd sk T S dp iw q o cs M) (k0 : (T q).1 ≠ 0) (k5 : (T q).1 ≠ 5) (hQ : ∀ M', sr_H Mb n m rd sk T S dp iw (rv_x T q) o cs M' → Q none G M') : mj_R mj_tab (d + 2) 216 [.inr (.inr (some m))] G M Q := by
  obtain ⟨⟨gm, gbt, grd, gsk⟩, ⟨r1, r8, r52⟩, rb, n1, m3, m5, hT⟩ := id hA
  obtain ⟨h1, h2, h3, h4, h5, h6, p1, p2, p3, p4, p5, p6, p7⟩ := id h
  have hx := sr_xl hA h6
  refine r_X12_next (d := d) (B := B) (n := n) (lim := 200) (p := rv_x T q) gm gbt n1 (by rw [h2]; exact r1) ((h4 3 (by decide)).trans m3) ((h4 5 (by decide)).trans m5) (h5.2.2.2.2.2 k0 k5) (fun k => by rw [h1 bt (hn_ne gbt gm (by decide)) (hn_ne gbt grd (by decide)) (hn_ne gbt gsk (by decide))]; exact rb k) (fun M' hM => hQ M' ?_)
  obtain ⟨o1, o2, o3, -⟩ := id hM
  have oc : ∀ a, a ≠ m → M'.1 a = M.1 a := fun a ha => funext fun k => o1 a k (fun e => ha e.1)
  have om : ∀ k, ¬ k ∈ [4, 11, 12, 13, 14] → M'.1 m k = M.1 m k := fun k hk => o1 m k (fun e => hk e.2)
  have ol : ∀ a, a ≠ m → M'.2.1 a = M.2.1 a := fun a ha => funext fun k => o2 a k (fun e => ha e.1)
  refine ⟨fun a a1 a2 a3 => (oc a a1).trans (h1 a a1 a2 a3), o3.trans h2, fun a ha => (ol a ha).trans (h3 a ha), fun k hk => (om k (fun e => hk ?_)).trans (h4 k hk), by rw [hT]; rw [hT] at hx hM; exact rv_tq_of (rv_T_w hx).1 (rv_nx_T hx hM), hx, (om 53 (by decide)).trans p1, (om 54 (by decide)).trans p2, (om 55 (by decide)).trans p3, (om 56 (by decide)).trans p4, (om 57 (by decide)).trans p5, fun j hj => by rw [oc rd (hn_ne grd gm (by decide))]; exact p6 j hj, p7.cg (fun j _ => by rw [oc sk (hn_ne gsk gm (by decide))])⟩
  simp only [List.mem_cons, List.not_mem_nil, or_false] at e ⊢
  omega
theorem sr_bad (hA : sr_A G Mb B n m bt rd sk T) {f : Int} (h : sr_H Mb n m rd sk T S dp iw q o cs M) (hQ : ∀ M', sr_F Mb m rd sk f (T q).2.1 M' → Q (some (.inl 0)) G M') : mj_R mj_tab (d + 1) 161 [.inr (.inr (some m)), .inl f] G M Q := by
  have gm := hA.1.1
  refine ⟨Nat.le_of_ble_eq_true rfl, ?_⟩
  show wz d mt_X12_bad.2.2.2.2.1 Q mt_X12_bad.2.2.2.2.1 [some (.inr (.inr (some m))), some (.inl f)] [] G M _ _
  refine w_aln rfl ?_
  refine w_iln rfl ?_
  refine w_pi gm rfl (by decide) rfl (fun q => by cases q) ?_
  refine w_aln rfl ?_
  refine w_aln rfl ?_
  refine w_gi gm rfl (by decide) rfl rfl ?_
  refine w_pi gm rfl (by decide) rfl (fun q => by cases q) ?_
  refine w_ic ?_
  exact w_iret (fun _ => Or.inl rfl) (hQ _ ⟨(hn_n (Or.inr (by decide))).trans hn_s, hn_s.trans ((hn_n (Or.inr (by decide))).trans h.2.2.2.2.1.2.1), fun a a1 a2 a3 => (wz_c a1).trans ((wz_c a1).trans (h.1 a a1 a2 a3))⟩)
theorem sr_isWord (hA : sr_A G Mb B n m bt rd sk T) {W : Int64} (h : sr_H Mb n m rd sk T S dp iw q o cs M) (hi : i < 24) (hW : rv_8 (rv_rs.getD i []) = W) (h1 : se_j (T q) = i → Q (some (.inl 1)) G M) (h0 : ¬ se_j (T q) = i → Q (some (.inl 0)) G M) : mj_R mj_tab (d + 1) 206 [.inr (.inr (some m)), .inr (.inl W)] G M Q := by
  have gm := hA.1.1
  have hS := h.2.2.2.2.1
  have hw := sr_tw hA h.2.2.2.2.2.1
  have hk := rv_tkc_f hw.1
  refine ⟨Nat.le_of_ble_eq_true rfl, ?_⟩
  show wz d mt_X12_isWord.2.2.2.2.1 Q mt_X12_isWord.2.2.2.2.1 [some (.inr (.inr (some m))), some (.inr (.inl W)), none] [] G M _ _
  refine w_aln rfl ?_
  refine w_gi gm rfl (by decide) rfl hS.1 ?_
  refine w_ic ?_
  refine w_cmne (fun c => ?_) (fun c => ?_)
  · refine w_ic ?_
    exact w_iret (fun _ => Or.inl rfl) (h0 (fun e => by have := (se_j_lt (t := T q) (by omega)).1; omega))
  · have k1 : (T q).1 = 1 := by omega
    have wo := hw.2.2.2.2.1 k1
    refine w_aln rfl ?_
    refine w_gl gm rfl (by decide) rfl (hS.2.2.1 k1) ?_
    refine w_lln rfl ?_
    refine w_lcmp ?_
    intro z hz ez
    have qz := rv_cmp ez
    refine w_ifne (fun c2 => ?_) (fun c2 => ?_)
    · refine w_ic ?_
      refine w_iret (fun _ => Or.inl rfl) (h0 (fun e => qz.2 c2 ?_))
      have e2 := (se_j_lt (t := T q) (by omega)).2
      rw [e] at e2
      rw [← hW, e2]
    · refine w_ic ?_
      refine w_goto ?_
      exact w_iret (fun _ => Or.inr rfl) (h1 (se_j_of k1 hi (rv_8i (rv_rs_o i hi) wo (hW.trans (qz.1 c2).symm))))
theorem sr_isSign (hA : sr_A G Mb B n m bt rd sk T) {c : Int} (h : sr_H Mb n m rd sk T S dp iw q o cs M) (hc : c = 40 ∨ c = 41) (h1 : se_s (T q) c → Q (some (.inl 1)) G M) (h0 : ¬ se_s (T q) c → Q (some (.inl 0)) G M) : mj_R mj_tab (d + 1) 203 [.inr (.inr (some m)), .inl c] G M Q := by
  have gm := hA.1.1
  have hS := h.2.2.2.2.1
  have hk := rv_tkc_f (sr_tw hA h.2.2.2.2.2.1).1
  refine ⟨Nat.le_of_ble_eq_true rfl, ?_⟩
  show wz d mt_X12_isSign.2.2.2.2.1 Q mt_X12_isSign.2.2.2.2.1 [some (.inr (.inr (some m))), some (.inl c)] [] G M _ _
  refine w_aln rfl ?_
  refine w_gi gm rfl (by decide) rfl hS.1 ?_
  refine w_ic ?_
  refine w_cmne (fun e => ?_) (fun e => ?_)
  · refine w_ic ?_
    refine w_iret (fun _ => Or.inl rfl) (h0 (fun g => ?_))
    rcases rv_tkc_s g.1 with e2 | e2
    · exact e e2.1
    · have := g.2; exact e2.2 (by omega)
  · have e3 : (T q).1 = 3 := by omega
    refine w_aln rfl ?_
    refine w_gi gm rfl (by decide) rfl (hS.2.2.2.2.1 e3) ?_
    refine w_iln rfl ?_
    refine w_cmne (fun c2 => ?_) (fun c2 => ?_)
    · refine w_ic ?_
      exact w_iret (fun _ => Or.inl rfl) (h0 (fun g => c2 g.2))
    · refine w_ic ?_
      refine w_goto ?_
      exact w_iret (fun _ => Or.inr rfl) (h1 ⟨e3, c2⟩)
theorem sr_code (hA : sr_A G Mb B n m bt rd sk T) (h : sr_H Mb n m rd sk T S dp iw q o cs M) (hl : cs.length < 45) (hx : x = se_k w) (hQ : ∀ M', sr_H Mb n m rd sk T S dp iw q o (cs ++ [(w, z, v)]) M' → Q none G M') : mj_R mj_tab (d + 1) 174 [.inr (.inr (some m)), .inl x, .inl z, .inl v] G M Q := by
  obtain ⟨⟨gm, gbt, grd, gsk⟩, ⟨r1, r8, r52⟩, -⟩ := id hA
  obtain ⟨h1, h2, h3, h4, h5, h6, p1, p2, p3, p4, p5, p6, p7⟩ := id h
  have mr : m ≠ rd := hn_ne gm grd (by decide)
  have rm : rd ≠ m := mr.symm
  have r8' : M.2.2 m 8 = some rd := by rw [h2]; exact r8
  refine ⟨Nat.le_of_ble_eq_true rfl, ?_⟩
  show wz d mt_X12_code.2.2.2.2.1 Q mt_X12_code.2.2.2.2.1 [some (.inr (.inr (some m))), some (.inl x), some (.inl z), some (.inl v)] [] G M _ _
  refine w_aln rfl ?_
  refine w_gr gm rfl (by decide) rfl r8' ?_
  refine w_ic ?_
  refine w_aln rfl ?_
  refine w_gi gm rfl (by decide) rfl p1 ?_
  refine w_mul ⟨by omega, by omega⟩ ?_
  refine w_iln rfl ?_
  refine w_iast grd rfl (by decide) (by omega) (by show 3 * (cs.length : Int) < ((135 : Nat) : Int); omega) ?_
  rw [show (3 * (cs.length : Int)).toNat = 3 * cs.length by omega]
  refine w_aln rfl ?_
  refine w_gr gm rfl (by decide) rfl r8' ?_
  refine w_ic ?_
  refine w_aln rfl ?_
  refine w_gi gm rfl (by decide) rfl ((hn_n (Or.inl mr)).trans p1) ?_
  refine w_mul ⟨by omega, by omega⟩ ?_
  refine w_ic ?_
  refine w_add ⟨by omega, by omega⟩ ?_
  refine w_iln rfl ?_
  refine w_iast grd rfl (by decide) (by omega) (by show 3 * (cs.length : Int) + 1 < ((135 : Nat) : Int); omega) ?_
  rw [show (3 * (cs.length : Int) + 1).toNat = 3 * cs.length + 1 by omega]
  refine w_aln rfl ?_
  refine w_gr gm rfl (by decide) rfl r8' ?_
  refine w_ic ?_
  refine w_aln rfl ?_
  refine w_gi gm rfl (by decide) rfl ((hn_n (Or.inl mr)).trans ((hn_n (Or.inl mr)).trans p1)) ?_
  refine w_mul ⟨by omega, by omega⟩ ?_
  refine w_ic ?_
  refine w_add ⟨by omega, by omega⟩ ?_
  refine w_iln rfl ?_
  refine w_iast grd rfl (by decide) (by omega) (by show 3 * (cs.length : Int) + 2 < ((135 : Nat) : Int); omega) ?_
  rw [show (3 * (cs.length : Int) + 2).toNat = 3 * cs.length + 2 by omega]
  refine w_aln rfl ?_
  refine w_dupr ?_
  refine w_gi gm rfl (by decide) rfl ((hn_n (Or.inl mr)).trans ((hn_n (Or.inl mr)).trans ((hn_n (Or.inl mr)).trans p1))) ?_
  refine w_ic ?_
  refine w_add ⟨by omega, by omega⟩ ?_
  refine w_pi gm rfl (by decide) rfl (fun q => by cases q) ?_
  have em : ∀ k, k ≠ 53 → (mj_p0 (mj_p0 (mj_p0 (mj_p0 M rd (3 * cs.length) x) rd (3 * cs.length + 1) z) rd (3 * cs.length + 2) v) m 53 ((cs.length : Int) + 1)).1 m k = M.1 m k := fun k hk => (hn_n (Or.inr hk)).trans ((hn_n (Or.inl mr)).trans ((hn_n (Or.inl mr)).trans (hn_n (Or.inl mr))))
  have eo : ∀ a, a ≠ m → a ≠ rd → (mj_p0 (mj_p0 (mj_p0 (mj_p0 M rd (3 * cs.length) x) rd (3 * cs.length + 1) z) rd (3 * cs.length + 2) v) m 53 ((cs.length : Int) + 1)).1 a = M.1 a := fun a a1 a2 => (wz_c a1).trans ((wz_c a2).trans ((wz_c a2).trans (wz_c a2)))
  refine w_ret (hQ _ (h.cg (fun a a1 a2 _ => eo a a1 a2) rfl (fun k hk => em k (by omega)) ⟨hn_s.trans (by rw [se_len]; rfl), (em 54 (by decide)).trans p2, (em 55 (by decide)).trans p3, (em 56 (by decide)).trans p4, (em 57 (by decide)).trans p5, fun j hj => ?_, p7.cg (fun j _ => by rw [eo sk (hn_ne gsk gm (by decide)) (hn_ne gsk grd (by decide))])⟩))
  rw [se_len] at hj
  by_cases c : j < cs.length
  · obtain ⟨b1, b2, b3⟩ := p6 j c
    rw [se_gl c]
    exact ⟨(hn_n (Or.inl rm)).trans ((hn_n (Or.inr (by omega))).trans ((hn_n (Or.inr (by omega))).trans ((hn_n (Or.inr (by omega))).trans b1))), (hn_n (Or.inl rm)).trans ((hn_n (Or.inr (by omega))).trans ((hn_n (Or.inr (by omega))).trans ((hn_n (Or.inr (by omega))).trans b2))), (hn_n (Or.inl rm)).trans ((hn_n (Or.inr (by omega))).trans ((hn_n (Or.inr (by omega))).trans ((hn_n (Or.inr (by omega))).trans b3)))⟩
  · have e : j = cs.length := by omega
    subst e
    rw [se_gr]
    exact ⟨(hn_n (Or.inl rm)).trans ((hn_n (Or.inr (by omega))).trans ((hn_n (Or.inr (by omega))).trans (hn_s.trans hx))), (hn_n (Or.inl rm)).trans ((hn_n (Or.inr (by omega))).trans hn_s), (hn_n (Or.inl rm)).trans hn_s⟩
theorem sr_nots {kk0 : Nat} (hA : sr_A G Mb B n m bt rd sk T) (hlen : S.length + kk0 ≤ 45) (hdp : 0 ≤ dp ∧ dp + (kk0 : Int) ≤ 100) (hS : S = [] ∨ ∃ y S', S = y :: S' ∧ y ≠ 10) (hQ : ∀ M', sr_H Mb n m rd sk T S dp iw q o cs2 M' → Q none G M') : ∀ (k : Nat) (cs : (List (Nat × Int × Int))) (M : mj_M) (cb sb : Nat), k ≤ kk0 → cs ++ List.replicate k (14, 0, 0) = cs2 → cs.length + k ≤ 44 → sr_H Mb n m rd sk T (List.replicate k 10 ++ S) (dp + k) iw q o cs M → wz (d + 1) mt_X12_nots.2.2.2.2.1 Q mt_X12_nots.2.2.2.2.1 [some (.inr (.inr (some m)))] [] G M cb sb := by
  obtain ⟨⟨gm, gbt, grd, gsk⟩, ⟨r1, r8, r52⟩, -⟩ := id hA
  intro k
  induction k with
  | zero =>
    intro cs M cb sb hk0 e hl h
    have e : cs ++ [] = cs2 := e
    rw [List.append_nil] at e
    subst e
    have h : sr_H Mb n m rd sk T S (dp + ((0 : Nat) : Int)) iw q o cs M := h
    rw [show dp + ((0 : Nat) : Int) = dp by omega] at h
    obtain ⟨h1, h2, h3, h4, h5, h6, p1, p2, p3, p4, p5, p6, p7⟩ := id h
    refine w_aln rfl ?_
    refine w_gi gm rfl (by decide) rfl p3 ?_
    rcases hS with rfl | ⟨y, S', rfl, hy⟩
    · refine w_ifle (fun _ => ?_) (fun c => absurd c (by decide))
      exact w_ret (hQ M h)
    · have tl : ((y :: S').length : Int) = (S'.length : Int) + 1 := rfl
      refine w_ifle (fun c => by exfalso; omega) (fun c => ?_)
      refine w_aln rfl ?_
      refine w_gr gm rfl (by decide) rfl (by rw [h2]; exact r52) ?_
      refine w_aln rfl ?_
      refine w_gi gm rfl (by decide) rfl p3 ?_
      refine w_ic ?_
      have hb2 : (y :: S').length = S'.length + 1 := rfl
      have hb : (S'.length : Int) + 1 ≤ 45 := by omega
      refine w_sub ⟨by omega, by omega⟩ ?_
      refine w_iald (v := y) gsk rfl (by omega) (by show ((y :: S').length : Int) - 1 < ((45 : Nat) : Int); omega) (by rw [show (((y :: S').length : Int) - 1).toNat = S'.length by omega]; exact p7.1) ?_
      refine w_bp ?_
      refine w_cmne (fun _ => ?_) (fun c => absurd c hy)
      exact w_ret (hQ M h)
  | succ k ih =>
    intro cs M cb sb hk0 e hl h
    have h : sr_H Mb n m rd sk T (10 :: (List.replicate k 10 ++ S)) (dp + ((k + 1 : Nat) : Int)) iw q o cs M := h
    obtain ⟨h1, h2, h3, h4, h5, h6, p1, p2, p3, p4, p5, p6, p7⟩ := id h
    have tl : (((10 : Int) :: (List.replicate k 10 ++ S)).length : Int) = ((List.replicate k (10 : Int) ++ S).length : Int) + 1 := rfl
    have hr : (List.replicate k (10 : Int) ++ S).length = k + S.length := by rw [List.length_append, List.length_replicate]
    refine w_aln rfl ?_
    refine w_gi gm rfl (by decide) rfl p3 ?_
    refine w_ifle (fun c => by exfalso; omega) (fun c => ?_)
    refine w_aln rfl ?_
    refine w_gr gm rfl (by decide) rfl (by rw [h2]; exact r52) ?_
    refine w_aln rfl ?_
    refine w_gi gm rfl (by decide) rfl p3 ?_
    refine w_ic ?_
    have hb : ((List.replicate k (10 : Int) ++ S).length : Int) + 1 ≤ 45 := by omega
    refine w_sub ⟨by omega, by omega⟩ ?_
    refine w_iald (v := 10) gsk rfl (by omega) (by show (((10 : Int) :: (List.replicate k 10 ++ S)).length : Int) - 1 < ((45 : Nat) : Int); omega) (by rw [show ((((10 : Int) :: (List.replicate k 10 ++ S)).length : Int) - 1).toNat = (List.replicate k (10 : Int) ++ S).length by omega]; exact p7.1) ?_
    refine w_bp ?_
    refine w_cmne (fun c => absurd rfl c) (fun _ => ?_)
    refine w_aln rfl ?_
    refine w_dupr ?_
    refine w_gi gm rfl (by decide) rfl p3 ?_
    refine w_ic ?_
    refine w_sub ⟨by omega, by omega⟩ ?_
    refine w_pi gm rfl (by decide) rfl (fun q => by cases q) ?_
    refine w_aln rfl ?_
    refine w_dupr ?_
    refine w_gi gm rfl (by decide) rfl ((hn_n (Or.inr (by decide))).trans p4) ?_
    refine w_ic ?_
    refine w_sub ⟨by omega, by omega⟩ ?_
    refine w_pi gm rfl (by decide) rfl (fun q => by cases q) ?_
    have em : ∀ j, j ≠ 55 → j ≠ 56 → (mj_p0 (mj_p0 M m 55 ((((10 : Int) :: (List.replicate k 10 ++ S)).length : Int) - 1)) m 56 (dp + ((k + 1 : Nat) : Int) - 1)).1 m j = M.1 m j := fun j j1 j2 => (hn_n (Or.inr j2)).trans (hn_n (Or.inr j1))
    have eo : ∀ a, a ≠ m → (mj_p0 (mj_p0 M m 55 ((((10 : Int) :: (List.replicate k 10 ++ S)).length : Int) - 1)) m 56 (dp + ((k + 1 : Nat) : Int) - 1)).1 a = M.1 a := fun a a1 => (wz_c a1).trans (wz_c a1)
    have hH : sr_H Mb n m rd sk T (List.replicate k 10 ++ S) (dp + k) iw q o cs (mj_p0 (mj_p0 M m 55 ((((10 : Int) :: (List.replicate k 10 ++ S)).length : Int) - 1)) m 56 (dp + ((k + 1 : Nat) : Int) - 1)) := h.cg (fun a a1 _ _ => eo a a1) rfl (fun j hj => em j (by omega) (by omega)) ⟨(em 53 (by decide) (by decide)).trans p1, (em 54 (by decide) (by decide)).trans p2, (hn_n (Or.inr (by decide))).trans (hn_s.trans (by omega)), hn_s.trans (by omega), (em 57 (by decide) (by decide)).trans p5, fun j hj => by rw [eo rd (hn_ne grd gm (by decide))]; exact p6 j hj, p7.2.cg (fun j _ => by rw [eo sk (hn_ne gsk gm (by decide))])⟩
    refine w_aln rfl ?_
    refine w_bp ?_
    refine w_ic ?_
    refine w_ic ?_
    refine w_cv (st := []) rfl gm rfl (Nat.le_of_ble_eq_true rfl) (fun kk h => h) (sr_code (d := d) (w := 14) hA hH (by omega) (by decide) (fun M1 s1 => ?_))
    refine w_goto ?_
    refine ih (cs ++ [(14, 0, 0)]) M1 _ _ (by omega) (by rw [List.append_assoc]; exact e) (by rw [se_len]; omega) s1
theorem sr_joins {till : Int} (hA : sr_A G Mb B n m bt rd sk T) (ht : till = 11 ∨ till = 12) (hS : S = [] ∨ ∃ y S', S = y :: S' ∧ y ≠ 11 ∧ ¬ (y = 12 ∧ till = 12)) (hQ : ∀ M', sr_H Mb n m rd sk T S dp iw q o cs2 M' → Q none G M') : ∀ (P : List Int) (cs : (List (Nat × Int × Int))) (M : mj_M) (cb sb : Nat), (∀ y ∈ P, y = 11 ∨ (y = 12 ∧ till = 12)) → cs ++ P.map se_cv = cs2 → cs.length + P.length ≤ 44 → P.length + S.length ≤ 45 → sr_H Mb n m rd sk T (P ++ S) dp iw q o cs M → wz (d + 1) mt_X12_joins.2.2.2.2.1 Q mt_X12_joins.2.2.2.2.1 [some (.inr (.inr (some m))), some (.inl till)] [] G M cb sb := by
  obtain ⟨⟨gm, gbt, grd, gsk⟩, ⟨r1, r8, r52⟩, -⟩ := id hA
  intro P
  induction P with
  | nil =>
    intro cs M cb sb hP e hl hb h
    have e : cs ++ [] = cs2 := e
    rw [List.append_nil] at e
    subst e
    have h : sr_H Mb n m rd sk T S dp iw q o cs M := h
    obtain ⟨h1, h2, h3, h4, h5, h6, p1, p2, p3, p4, p5, p6, p7⟩ := id h
    refine w_aln rfl ?_
    refine w_gi gm rfl (by decide) rfl p3 ?_
    rcases hS with rfl | ⟨y, S', rfl, hy, hy2⟩
    · refine w_ifle (fun _ => ?_) (fun c => absurd c (by decide))
      exact w_ret (hQ M h)
    · have tl : ((y :: S').length : Int) = (S'.length : Int) + 1 := rfl
      have hb : ([] : List Int).length + (y :: S').length ≤ 45 := hb
      have hb2 : (y :: S').length = S'.length + 1 := rfl
      have hb3 : ([] : List Int).length = 0 := rfl
      refine w_ifle (fun c => by exfalso; omega) (fun c => ?_)
      refine w_aln rfl ?_
      refine w_gr gm rfl (by decide) rfl (by rw [h2]; exact r52) ?_
      refine w_aln rfl ?_
      refine w_gi gm rfl (by decide) rfl p3 ?_
      refine w_ic ?_
      refine w_sub ⟨by omega, by omega⟩ ?_
      refine w_iald (v := y) gsk rfl (by omega) (by show ((y :: S').length : Int) - 1 < ((45 : Nat) : Int); omega) (by rw [show (((y :: S').length : Int) - 1).toNat = S'.length by omega]; exact p7.1) ?_
      refine w_bp ?_
      refine w_cmeq (fun c => absurd c hy) (fun _ => ?_)
      refine w_aln rfl ?_
      refine w_gr gm rfl (by decide) rfl (by rw [h2]; exact r52) ?_
      refine w_aln rfl ?_
      refine w_gi gm rfl (by decide) rfl p3 ?_
      refine w_ic ?_
      refine w_sub ⟨by omega, by omega⟩ ?_
      refine w_iald (v := y) gsk rfl (by omega) (by show ((y :: S').length : Int) - 1 < ((45 : Nat) : Int); omega) (by rw [show (((y :: S').length : Int) - 1).toNat = S'.length by omega]; exact p7.1) ?_
      refine w_bp ?_
      refine w_cmne (fun _ => ?_) (fun c => ?_)
      · exact w_ret (hQ M h)
      · refine w_iln rfl ?_
        refine w_bp ?_
        refine w_cmne (fun _ => ?_) (fun c2 => absurd ⟨c, c2⟩ hy2)
        exact w_ret (hQ M h)
  | cons y P ih =>
    intro cs M cb sb hP e hl hb h
    have h : sr_H Mb n m rd sk T (y :: (P ++ S)) dp iw q o cs M := h
    have hy := hP y List.mem_cons_self
    obtain ⟨h1, h2, h3, h4, h5, h6, p1, p2, p3, p4, p5, p6, p7⟩ := id h
    have tl : ((y :: (P ++ S)).length : Int) = ((P ++ S).length : Int) + 1 := rfl
    have hr : (P ++ S).length = P.length + S.length := List.length_append
    have hb2 : (y :: P).length = P.length + 1 := rfl
    have pop : ∀ cb sb, wz (d + 1) mt_X12_joins.2.2.2.2.1 Q (mt_X12_joins.2.2.2.2.1.drop 24) [some (.inr (.inr (some m))), some (.inl till)] [] G M cb sb := fun cb sb => by
      refine w_aln rfl ?_
      refine w_dupr ?_
      refine w_gi gm rfl (by decide) rfl p3 ?_
      refine w_ic ?_
      refine w_sub ⟨by omega, by omega⟩ ?_
      refine w_pi gm rfl (by decide) rfl (fun q => by cases q) ?_
      have em : ∀ j, j ≠ 55 → (mj_p0 M m 55 (((y :: (P ++ S)).length : Int) - 1)).1 m j = M.1 m j := fun j j1 => hn_n (Or.inr j1)
      have eo : ∀ a, a ≠ m → (mj_p0 M m 55 (((y :: (P ++ S)).length : Int) - 1)).1 a = M.1 a := fun a a1 => wz_c a1
      have hH : sr_H Mb n m rd sk T (P ++ S) dp iw q o cs (mj_p0 M m 55 (((y :: (P ++ S)).length : Int) - 1)) := h.cg (fun a a1 _ _ => eo a a1) rfl (fun j hj => em j (by omega)) ⟨(em 53 (by decide)).trans p1, (em 54 (by decide)).trans p2, hn_s.trans (by omega), (em 56 (by decide)).trans p4, (em 57 (by decide)).trans p5, fun j hj => by rw [eo rd (hn_ne grd gm (by decide))]; exact p6 j hj, p7.2.cg (fun j _ => by rw [eo sk (hn_ne gsk gm (by decide))])⟩
      refine w_aln rfl ?_
      refine w_aln rfl ?_
      refine w_gr gm rfl (by decide) rfl (by show M.2.2 m 52 = _; rw [h2]; exact r52) ?_
      refine w_aln rfl ?_
      refine w_gi gm rfl (by decide) rfl hn_s ?_
      refine w_iald (v := y) gsk rfl (by omega) (by show ((y :: (P ++ S)).length : Int) - 1 < ((45 : Nat) : Int); omega) (by rw [show (((y :: (P ++ S)).length : Int) - 1).toNat = (P ++ S).length by omega, eo sk (hn_ne gsk gm (by decide))]; exact p7.1) ?_
      refine w_ic ?_
      refine w_ic ?_
      refine w_cv (st := []) rfl gm rfl (Nat.le_of_ble_eq_true rfl) (fun kk h => h) (sr_code (d := d) (w := (se_cv y).1) hA hH (by omega) ?_ (fun M1 s1 => ?_))
      · rcases hy with rfl | ⟨rfl, -⟩
        · decide
        · decide
      · refine w_goto ?_
        refine ih (cs ++ [se_cv y]) M1 _ _ (fun z hz => hP z (List.mem_cons_of_mem _ hz)) (by rw [List.append_assoc]; exact e) (by rw [se_len]; omega) (by omega) s1
    refine w_aln rfl ?_
    refine w_gi gm rfl (by decide) rfl p3 ?_
    refine w_ifle (fun c => by exfalso; omega) (fun c => ?_)
    refine w_aln rfl ?_
    refine w_gr gm rfl (by decide) rfl (by rw [h2]; exact r52) ?_
    refine w_aln rfl ?_
    refine w_gi gm rfl (by decide) rfl p3 ?_
    refine w_ic ?_
    refine w_sub ⟨by omega, by omega⟩ ?_
    refine w_iald (v := y) gsk rfl (by omega) (by show ((y :: (P ++ S)).length : Int) - 1 < ((45 : Nat) : Int); omega) (by rw [show (((y :: (P ++ S)).length : Int) - 1).toNat = (P ++ S).length by omega]; exact p7.1) ?_
    refine w_bp ?_
    refine w_cmeq (fun _ => pop _ _) (fun c11 => ?_)
    have hy12 : y = 12 ∧ till = 12 := hy.resolve_left c11
    refine w_aln rfl ?_
    refine w_gr gm rfl (by decide) rfl (by rw [h2]; exact r52) ?_
    refine w_aln rfl ?_
    refine w_gi gm rfl (by decide) rfl p3 ?_
    refine w_ic ?_
    refine w_sub ⟨by omega, by omega⟩ ?_
    refine w_iald (v := y) gsk rfl (by omega) (by show ((y :: (P ++ S)).length : Int) - 1 < ((45 : Nat) : Int); omega) (by rw [show (((y :: (P ++ S)).length : Int) - 1).toNat = (P ++ S).length by omega]; exact p7.1) ?_
    refine w_bp ?_
    refine w_cmne (fun c => absurd hy12.1 c) (fun _ => ?_)
    refine w_iln rfl ?_
    refine w_bp ?_
    refine w_cmne (fun c => absurd hy12.2 c) (fun _ => ?_)
    exact pop _ _
theorem sr_leafOf (hA : sr_A G Mb B n m bt rd sk T) (h : sr_H Mb n m rd sk T S dp iw q o cs M) (hQ : ∀ z, ((15 ≤ se_j (T q) ∧ se_j (T q) < 24) → z = (se_j (T q) : Int) - 15) → (¬ (15 ≤ se_j (T q) ∧ se_j (T q) < 24) → z = -1) → Q (some (.inl z)) G M) : mj_R mj_tab (d + 2) 208 [.inr (.inr (some m))] G M Q := by
  have gm := hA.1.1
  have j24 := se_j_le (T q)
  refine ⟨Nat.le_of_ble_eq_true rfl, ?_⟩
  show wz (d + 1) mt_X12_leafOf.2.2.2.2.1 Q mt_X12_leafOf.2.2.2.2.1 [some (.inr (.inr (some m)))] [] G M _ _
  refine w_aln rfl ?_
  refine w_l2 ?_
  refine w_cv (st := []) rfl gm rfl (Nat.le_of_ble_eq_true rfl) (fun kk h => h) (sr_isWord (d := d) (i := 15) hA h (by decide) (by decide +kernel) (fun e => w_ifeq (fun c => absurd c (by decide)) (fun _ => w_ic (w_goto (w_iret (fun q => by cases q) (hQ 0 (fun _ => by omega) (fun c => by exfalso; omega)))))) (fun n15 => w_ifeq (fun _ => ?_) (fun c => absurd rfl c)))
  refine w_aln rfl ?_
  refine w_l2 ?_
  refine w_cv (st := []) rfl gm rfl (Nat.le_of_ble_eq_true rfl) (fun kk h => h) (sr_isWord (d := d) (i := 16) hA h (by decide) (by decide +kernel) (fun e => w_ifeq (fun c => absurd c (by decide)) (fun _ => w_ic (w_goto (w_iret (fun q => by cases q) (hQ 1 (fun _ => by omega) (fun c => by exfalso; omega)))))) (fun n16 => w_ifeq (fun _ => ?_) (fun c => absurd rfl c)))
  refine w_aln rfl ?_
  refine w_l2 ?_
  refine w_cv (st := []) rfl gm rfl (Nat.le_of_ble_eq_true rfl) (fun kk h => h) (sr_isWord (d := d) (i := 17) hA h (by decide) (by decide +kernel) (fun e => w_ifeq (fun c => absurd c (by decide)) (fun _ => w_ic (w_goto (w_iret (fun q => by cases q) (hQ 2 (fun _ => by omega) (fun c => by exfalso; omega)))))) (fun n17 => w_ifeq (fun _ => ?_) (fun c => absurd rfl c)))
  refine w_aln rfl ?_
  refine w_l2 ?_
  refine w_cv (st := []) rfl gm rfl (Nat.le_of_ble_eq_true rfl) (fun kk h => h) (sr_isWord (d := d) (i := 18) hA h (by decide) (by decide +kernel) (fun e => w_ifeq (fun c => absurd c (by decide)) (fun _ => w_ic (w_goto (w_iret (fun q => by cases q) (hQ 3 (fun _ => by omega) (fun c => by exfalso; omega)))))) (fun n18 => w_ifeq (fun _ => ?_) (fun c => absurd rfl c)))
  refine w_aln rfl ?_
  refine w_l2 ?_
  refine w_cv (st := []) rfl gm rfl (Nat.le_of_ble_eq_true rfl) (fun kk h => h) (sr_isWord (d := d) (i := 19) hA h (by decide) (by decide +kernel) (fun e => w_ifeq (fun c => absurd c (by decide)) (fun _ => w_ic (w_goto (w_iret (fun q => by cases q) (hQ 4 (fun _ => by omega) (fun c => by exfalso; omega)))))) (fun n19 => w_ifeq (fun _ => ?_) (fun c => absurd rfl c)))
  refine w_aln rfl ?_
  refine w_l2 ?_
  refine w_cv (st := []) rfl gm rfl (Nat.le_of_ble_eq_true rfl) (fun kk h => h) (sr_isWord (d := d) (i := 20) hA h (by decide) (by decide +kernel) (fun e => w_ifeq (fun c => absurd c (by decide)) (fun _ => w_ic (w_goto (w_iret (fun q => by cases q) (hQ 5 (fun _ => by omega) (fun c => by exfalso; omega)))))) (fun n20 => w_ifeq (fun _ => ?_) (fun c => absurd rfl c)))
  refine w_aln rfl ?_
  refine w_l2 ?_
  refine w_cv (st := []) rfl gm rfl (Nat.le_of_ble_eq_true rfl) (fun kk h => h) (sr_isWord (d := d) (i := 21) hA h (by decide) (by decide +kernel) (fun e => w_ifeq (fun c => absurd c (by decide)) (fun _ => w_bp (w_goto (w_iret (fun q => by cases q) (hQ 6 (fun _ => by omega) (fun c => by exfalso; omega)))))) (fun n21 => w_ifeq (fun _ => ?_) (fun c => absurd rfl c)))
  refine w_aln rfl ?_
  refine w_l2 ?_
  refine w_cv (st := []) rfl gm rfl (Nat.le_of_ble_eq_true rfl) (fun kk h => h) (sr_isWord (d := d) (i := 22) hA h (by decide) (by decide +kernel) (fun e => w_ifeq (fun c => absurd c (by decide)) (fun _ => w_bp (w_goto (w_iret (fun q => by cases q) (hQ 7 (fun _ => by omega) (fun c => by exfalso; omega)))))) (fun n22 => w_ifeq (fun _ => ?_) (fun c => absurd rfl c)))
  refine w_aln rfl ?_
  refine w_l2 ?_
  refine w_cv (st := []) rfl gm rfl (Nat.le_of_ble_eq_true rfl) (fun kk h => h) (sr_isWord (d := d) (i := 23) hA h (by decide) (by decide +kernel) (fun e => w_ifeq (fun c => absurd c (by decide)) (fun _ => w_bp (w_goto (w_iret (fun q => by cases q) (hQ 8 (fun _ => by omega) (fun c => by exfalso; omega)))))) (fun n23 => w_ifeq (fun _ => ?_) (fun c => absurd rfl c)))
  refine w_ic ?_
  exact w_iret (fun q => by cases q) (hQ (-1) (fun c => by exfalso; omega) (fun _ => rfl))
end UE
end
section
/-! ===== the reference reads a SENTENCE: operand, behind ===== -/
def sr_n10 (S : List Int) : Prop := S = [] ∨ ∃ y S', S = y :: S' ∧ y ≠ 10
/-- a stack on which nothing waits to be joined or turned -/
def sr_nb (S : List Int) : Prop := S = [] ∨ ∃ S', S = 13 :: S'
section UF
variable {G : mj_G} {Mb M M' : mj_M} {B : Nat → Int} {n m bt rd sk : Nat} {T : Nat → (Nat × Nat × Int × List Int × Nat)} {Q : mj_P} {d q : Nat} {cs cs2 : (List (Nat × Int × Int))} {o o2 w i : Nat} {z v x dp dp2 iw iw2 : Int} {S S2 P : List Int}
theorem sr_nb.j12 (h : sr_nb S) : S = [] ∨ ∃ y S', S = y :: S' ∧ y ≠ 11 ∧ ¬ (y = 12 ∧ (12 : Int) = 12) := by
  rcases h with h | ⟨S', h⟩
  · exact Or.inl h
  · exact Or.inr ⟨13, S', h, by decide, by decide⟩
theorem sr_nb.n10 (h : sr_nb S) : sr_n10 S := by
  rcases h with h | ⟨S', h⟩
  · exact Or.inl h
  · exact Or.inr ⟨13, S', h, by decide⟩
/-- behind, when its nots are done and the token is and -/
theorem sr_bAnd {R X : List Int} (hA : sr_A G Mb B n m bt rd sk T) (hX : ∀ y ∈ X, y = (11 : Int)) (hR : R = [] ∨ ∃ y S', R = y :: S' ∧ y ≠ 11 ∧ ¬ (y = 12 ∧ (11 : Int) = 12)) (h : sr_H Mb n m rd sk T (X ++ R) dp iw q o cs M) (hj : se_j (T q) = 13) (hl : cs.length + X.length ≤ 44) (hb : X.length + R.length ≤ 44) (hQ : ∀ M', sr_H Mb n m rd sk T (11 :: R) dp 0 (rv_x T q) o (cs ++ X.map se_cv) M' → Q (some (.inl 1)) G M') (cb sb : Nat) : wz (d + 2) mt_X12_behind.2.2.2.2.1 Q (mt_X12_behind.2.2.2.2.1.drop 2) [some (.inr (.inr (some m)))] [] G M cb sb := by
  obtain ⟨⟨gm, gbt, grd, gsk⟩, ⟨r1, r8, r52⟩, -⟩ := id hA
  have k1 := (se_j_lt (t := T q) (by omega)).1
  have ins : ∀ (M1 : mj_M) cb sb, sr_H Mb n m rd sk T R dp iw q o (cs ++ X.map se_cv) M1 → wz (d + 2) mt_X12_behind.2.2.2.2.1 Q (mt_X12_behind.2.2.2.2.1.drop 19) [some (.inr (.inr (some m)))] [] G M1 cb sb := fun M1 cb sb h1 => by
    obtain ⟨g1, g2, g3, g4, g5, g6, p1, p2, p3, p4, p5, p6, p7⟩ := id h1
    refine w_aln rfl ?_
    refine w_gr gm rfl (by decide) rfl (by rw [g2]; exact r52) ?_
    refine w_aln rfl ?_
    refine w_gi gm rfl (by decide) rfl p3 ?_
    refine w_aln rfl ?_
    refine w_l2 ?_
    refine w_cv (st := [.inl (R.length : Int), .inr (.inr (some sk))]) rfl gm rfl (Nat.le_of_ble_eq_true rfl) (fun kk h => h) (sr_isWord (d := d + 1) (i := 13) hA h1 (by decide) (by decide +kernel) (fun _ => ?_) (fun c => absurd hj c))
    refine w_ifeq (fun c => absurd c (by decide)) (fun _ => ?_)
    refine w_bp ?_
    refine w_goto ?_
    refine w_iast gsk rfl (by decide) (by omega) (by show (R.length : Int) < ((45 : Nat) : Int); omega) ?_
    rw [Int.toNat_natCast]
    refine w_aln rfl ?_
    refine w_dupr ?_
    refine w_gi gm rfl (by decide) rfl ((hn_n (Or.inl (hn_ne gm gsk (by decide)))).trans p3) ?_
    refine w_ic ?_
    refine w_add ⟨by omega, by omega⟩ ?_
    refine w_pi gm rfl (by decide) rfl (fun q => by first | omega | cases q) ?_
    refine w_aln rfl ?_
    refine w_ic ?_
    refine w_pi gm rfl (by decide) rfl (fun q => by first | omega | cases q) ?_
    have em : ∀ j, j ≠ 55 → j ≠ 57 → (mj_p0 (mj_p0 (mj_p0 M1 sk R.length 11) m 55 ((R.length : Int) + 1)) m 57 0).1 m j = M1.1 m j := fun j j1 j2 => (hn_n (Or.inr j2)).trans ((hn_n (Or.inr j1)).trans (hn_n (Or.inl (hn_ne gm gsk (by decide)))))
    have eo : ∀ a, a ≠ m → a ≠ sk → (mj_p0 (mj_p0 (mj_p0 M1 sk R.length 11) m 55 ((R.length : Int) + 1)) m 57 0).1 a = M1.1 a := fun a a1 a2 => (wz_c a1).trans ((wz_c a1).trans (wz_c a2))
    have es : (mj_p0 (mj_p0 (mj_p0 M1 sk R.length 11) m 55 ((R.length : Int) + 1)) m 57 0).1 sk = (mj_p0 M1 sk R.length 11).1 sk := (wz_c (hn_ne gsk gm (by decide))).trans (wz_c (hn_ne gsk gm (by decide)))
    have hH : sr_H Mb n m rd sk T (11 :: R) dp 0 q o (cs ++ X.map se_cv) (mj_p0 (mj_p0 (mj_p0 M1 sk R.length 11) m 55 ((R.length : Int) + 1)) m 57 0) := h1.cg (fun a a1 _ a3 => eo a a1 a3) rfl (fun j hj => em j (by omega) (by omega)) ⟨(em 53 (by decide) (by decide)).trans p1, (em 54 (by decide) (by decide)).trans p2, (hn_n (Or.inr (by decide))).trans (hn_s.trans rfl), (em 56 (by decide) (by decide)).trans p4, hn_s, fun j hj => by rw [eo rd (hn_ne grd gm (by decide)) (hn_ne grd gsk (by decide))]; exact p6 j hj, by rw [es]; exact hn_s, p7.cg (fun j hj => by rw [es]; exact hn_n (Or.inr (by omega)))⟩
    refine w_aln rfl ?_
    refine w_cv (st := []) rfl gm rfl (Nat.le_of_ble_eq_true rfl) (fun kk h => h) (sr_next (d := d) hA hH (by omega) (by omega) (fun M2 s2 => ?_))
    refine w_ic ?_
    exact w_iret (fun _ => Or.inr rfl) (hQ M2 s2)
  refine w_aln rfl ?_
  refine w_l2 ?_
  refine w_cv (st := []) rfl gm rfl (Nat.le_of_ble_eq_true rfl) (fun kk h => h) (sr_isWord (d := d + 1) (i := 13) hA h (by decide) (by decide +kernel) (fun _ => ?_) (fun c => absurd hj c))
  refine w_ifne (fun _ => ?_) (fun c => absurd c (by decide))
  refine w_aln rfl ?_
  refine w_aln rfl ?_
  refine w_l2 ?_
  refine w_cv (st := [.inr (.inr (some m))]) rfl gm rfl (Nat.le_of_ble_eq_true rfl) (fun kk h => h) (sr_isWord (d := d + 1) (i := 13) hA h (by decide) (by decide +kernel) (fun _ => ?_) (fun c => absurd hj c))
  refine w_ifeq (fun c => absurd c (by decide)) (fun _ => ?_)
  refine w_bp ?_
  refine w_goto ?_
  refine w_cv (st := []) rfl gm rfl (Nat.le_of_ble_eq_true rfl) (fun kk h => h) ⟨Nat.le_of_ble_eq_true rfl, ?_⟩
  show wz (d + 1) mt_X12_joins.2.2.2.2.1 _ mt_X12_joins.2.2.2.2.1 [some (.inr (.inr (some m))), some (.inl 11)] [] _ _ _ _
  exact sr_joins (d := d) hA (Or.inl rfl) hR (fun M1 h1 => ins M1 _ _ h1) X cs M _ _ (fun y hy => Or.inl (hX y hy)) rfl (by omega) (by omega) h
/-- .. and the token is or -/
theorem sr_bOr (hA : sr_A G Mb B n m bt rd sk T) (hP : ∀ y ∈ P, y = (11 : Int) ∨ y = 12) (hS : sr_nb S) (h : sr_H Mb n m rd sk T (P ++ S) dp iw q o cs M) (hj : se_j (T q) = 12) (hl : cs.length + P.length ≤ 44) (hb : P.length + S.length ≤ 44) (hQ : ∀ M', sr_H Mb n m rd sk T (12 :: S) dp 0 (rv_x T q) o (cs ++ P.map se_cv) M' → Q (some (.inl 1)) G M') (cb sb : Nat) : wz (d + 2) mt_X12_behind.2.2.2.2.1 Q (mt_X12_behind.2.2.2.2.1.drop 2) [some (.inr (.inr (some m)))] [] G M cb sb := by
  obtain ⟨⟨gm, gbt, grd, gsk⟩, ⟨r1, r8, r52⟩, -⟩ := id hA
  have k1 := (se_j_lt (t := T q) (by omega)).1
  have ins : ∀ (M1 : mj_M) cb sb, sr_H Mb n m rd sk T S dp iw q o (cs ++ P.map se_cv) M1 → wz (d + 2) mt_X12_behind.2.2.2.2.1 Q (mt_X12_behind.2.2.2.2.1.drop 19) [some (.inr (.inr (some m)))] [] G M1 cb sb := fun M1 cb sb h1 => by
    obtain ⟨g1, g2, g3, g4, g5, g6, p1, p2, p3, p4, p5, p6, p7⟩ := id h1
    refine w_aln rfl ?_
    refine w_gr gm rfl (by decide) rfl (by rw [g2]; exact r52) ?_
    refine w_aln rfl ?_
    refine w_gi gm rfl (by decide) rfl p3 ?_
    refine w_aln rfl ?_
    refine w_l2 ?_
    refine w_cv (st := [.inl (S.length : Int), .inr (.inr (some sk))]) rfl gm rfl (Nat.le_of_ble_eq_true rfl) (fun kk h => h) (sr_isWord (d := d + 1) (i := 13) hA h1 (by decide) (by decide +kernel) (fun c => by exfalso; omega) (fun _ => ?_))
    refine w_ifeq (fun _ => ?_) (fun c => absurd rfl c)
    refine w_bp ?_
    refine w_iast gsk rfl (by decide) (by omega) (by show (S.length : Int) < ((45 : Nat) : Int); omega) ?_
    rw [Int.toNat_natCast]
    refine w_aln rfl ?_
    refine w_dupr ?_
    refine w_gi gm rfl (by decide) rfl ((hn_n (Or.inl (hn_ne gm gsk (by decide)))).trans p3) ?_
    refine w_ic ?_
    refine w_add ⟨by omega, by omega⟩ ?_
    refine w_pi gm rfl (by decide) rfl (fun q => by first | omega | cases q) ?_
    refine w_aln rfl ?_
    refine w_ic ?_
    refine w_pi gm rfl (by decide) rfl (fun q => by first | omega | cases q) ?_
    have em : ∀ j, j ≠ 55 → j ≠ 57 → (mj_p0 (mj_p0 (mj_p0 M1 sk S.length 12) m 55 ((S.length : Int) + 1)) m 57 0).1 m j = M1.1 m j := fun j j1 j2 => (hn_n (Or.inr j2)).trans ((hn_n (Or.inr j1)).trans (hn_n (Or.inl (hn_ne gm gsk (by decide)))))
    have eo : ∀ a, a ≠ m → a ≠ sk → (mj_p0 (mj_p0 (mj_p0 M1 sk S.length 12) m 55 ((S.length : Int) + 1)) m 57 0).1 a = M1.1 a := fun a a1 a2 => (wz_c a1).trans ((wz_c a1).trans (wz_c a2))
    have es : (mj_p0 (mj_p0 (mj_p0 M1 sk S.length 12) m 55 ((S.length : Int) + 1)) m 57 0).1 sk = (mj_p0 M1 sk S.length 12).1 sk := (wz_c (hn_ne gsk gm (by decide))).trans (wz_c (hn_ne gsk gm (by decide)))
    have hH : sr_H Mb n m rd sk T (12 :: S) dp 0 q o (cs ++ P.map se_cv) (mj_p0 (mj_p0 (mj_p0 M1 sk S.length 12) m 55 ((S.length : Int) + 1)) m 57 0) := h1.cg (fun a a1 _ a3 => eo a a1 a3) rfl (fun j hj => em j (by omega) (by omega)) ⟨(em 53 (by decide) (by decide)).trans p1, (em 54 (by decide) (by decide)).trans p2, (hn_n (Or.inr (by decide))).trans (hn_s.trans rfl), (em 56 (by decide) (by decide)).trans p4, hn_s, fun j hj => by rw [eo rd (hn_ne grd gm (by decide)) (hn_ne grd gsk (by decide))]; exact p6 j hj, by rw [es]; exact hn_s, p7.cg (fun j hj => by rw [es]; exact hn_n (Or.inr (by omega)))⟩
    refine w_aln rfl ?_
    refine w_cv (st := []) rfl gm rfl (Nat.le_of_ble_eq_true rfl) (fun kk h => h) (sr_next (d := d) hA hH (by omega) (by omega) (fun M2 s2 => ?_))
    refine w_ic ?_
    exact w_iret (fun _ => Or.inr rfl) (hQ M2 s2)
  refine w_aln rfl ?_
  refine w_l2 ?_
  refine w_cv (st := []) rfl gm rfl (Nat.le_of_ble_eq_true rfl) (fun kk h => h) (sr_isWord (d := d + 1) (i := 13) hA h (by decide) (by decide +kernel) (fun c => by exfalso; omega) (fun _ => ?_))
  refine w_ifne (fun c => absurd rfl c) (fun _ => ?_)
  refine w_aln rfl ?_
  refine w_l2 ?_
  refine w_cv (st := []) rfl gm rfl (Nat.le_of_ble_eq_true rfl) (fun kk h => h) (sr_isWord (d := d + 1) (i := 12) hA h (by decide) (by decide +kernel) (fun _ => ?_) (fun c => absurd hj c))
  refine w_ifeq (fun c => absurd c (by decide)) (fun _ => ?_)
  refine w_aln rfl ?_
  refine w_aln rfl ?_
  refine w_l2 ?_
  refine w_cv (st := [.inr (.inr (some m))]) rfl gm rfl (Nat.le_of_ble_eq_true rfl) (fun kk h => h) (sr_isWord (d := d + 1) (i := 13) hA h (by decide) (by decide +kernel) (fun c => by exfalso; omega) (fun _ => ?_))
  refine w_ifeq (fun _ => ?_) (fun c => absurd rfl c)
  refine w_bp ?_
  refine w_cv (st := []) rfl gm rfl (Nat.le_of_ble_eq_true rfl) (fun kk h => h) ⟨Nat.le_of_ble_eq_true rfl, ?_⟩
  show wz (d + 1) mt_X12_joins.2.2.2.2.1 _ mt_X12_joins.2.2.2.2.1 [some (.inr (.inr (some m))), some (.inl 12)] [] _ _ _ _
  exact sr_joins (d := d) hA (Or.inr rfl) hS.j12 (fun M1 h1 => ins M1 _ _ h1) P cs M _ _ (fun y hy => (hP y hy).imp id (fun e => ⟨e, rfl⟩)) rfl (by omega) (by omega) h
/-- .. and it is neither: a bracket is closed, or it can't come -/
theorem sr_bElse (hA : sr_A G Mb B n m bt rd sk T) (hP : ∀ y ∈ P, y = (11 : Int) ∨ y = 12) (hS : sr_nb S) (h : sr_H Mb n m rd sk T (P ++ S) dp iw q o cs M) (hj : ¬ se_j (T q) = 13) (hj2 : ¬ se_j (T q) = 12) (hl : cs.length + P.length ≤ 44) (hb : P.length + S.length ≤ 44) (hdp : 0 ≤ dp ∧ dp ≤ 100) (hQ : ∀ S' M', S = 13 :: S' → se_s (T q) 41 → sr_H Mb n m rd sk T S' (dp - 1) iw (rv_x T q) o (cs ++ P.map se_cv) M' → Q (some (.inl 1)) G M') (hF : (S = [] ∨ ¬ se_s (T q) 41) → ∀ M', sr_F Mb m rd sk 1 (T q).2.1 M' → Q (some (.inl 0)) G M') (cb sb : Nat) : wz (d + 2) mt_X12_behind.2.2.2.2.1 Q (mt_X12_behind.2.2.2.2.1.drop 2) [some (.inr (.inr (some m)))] [] G M cb sb := by
  obtain ⟨⟨gm, gbt, grd, gsk⟩, ⟨r1, r8, r52⟩, -⟩ := id hA
  have fin : ∀ (M1 : mj_M) cb sb, sr_H Mb n m rd sk T S dp iw q o (cs ++ P.map se_cv) M1 → wz (d + 2) mt_X12_behind.2.2.2.2.1 Q (mt_X12_behind.2.2.2.2.1.drop 47) [some (.inr (.inr (some m)))] [] G M1 cb sb := fun M1 cb sb h1 => by
    obtain ⟨g1, g2, g3, g4, g5, g6, p1, p2, p3, p4, p5, p6, p7⟩ := id h1
    have no : (S = [] ∨ ¬ se_s (T q) 41) → ∀ cb sb, wz (d + 2) mt_X12_behind.2.2.2.2.1 Q (mt_X12_behind.2.2.2.2.1.drop 54) [some (.inr (.inr (some m)))] [] G M1 cb sb := fun c cb sb => by
      refine w_aln rfl ?_
      refine w_ic ?_
      refine w_cv (st := []) rfl gm rfl (Nat.le_of_ble_eq_true rfl) (fun kk h => h) (sr_bad (d := d + 1) hA h1 (fun M' F => ?_))
      exact w_iret (fun _ => Or.inl rfl) (hF c M' F)
    refine w_aln rfl ?_
    refine w_bp ?_
    refine w_cv (st := []) rfl gm rfl (Nat.le_of_ble_eq_true rfl) (fun kk h => h) (sr_isSign (d := d + 1) hA h1 (Or.inr rfl) (fun c41 => ?_) (fun c41 => ?_))
    · refine w_ifeq (fun c => absurd c (by decide)) (fun _ => ?_)
      refine w_aln rfl ?_
      refine w_gi gm rfl (by decide) rfl p3 ?_
      rcases hS with rfl | ⟨S', rfl⟩
      · refine w_ifne (fun c => absurd rfl c) (fun _ => ?_)
        exact no (Or.inl rfl) _ _
      · have tl : (((13 : Int) :: S').length : Int) = (S'.length : Int) + 1 := rfl
        have tl2 : ((13 : Int) :: S').length = S'.length + 1 := rfl
        refine w_ifne (fun _ => ?_) (fun c => by exfalso; omega)
        refine w_aln rfl ?_
        refine w_dupr ?_
        refine w_gi gm rfl (by decide) rfl p3 ?_
        refine w_ic ?_
        refine w_sub ⟨by omega, by omega⟩ ?_
        refine w_pi gm rfl (by decide) rfl (fun q => by first | omega | cases q) ?_
        refine w_aln rfl ?_
        refine w_dupr ?_
        refine w_gi gm rfl (by decide) rfl ((hn_n (Or.inr (by decide))).trans p4) ?_
        refine w_ic ?_
        refine w_sub ⟨by omega, by omega⟩ ?_
        refine w_pi gm rfl (by decide) rfl (fun q => by first | omega | cases q) ?_
        have em : ∀ j, j ≠ 55 → j ≠ 56 → (mj_p0 (mj_p0 M1 m 55 ((((13 : Int) :: S').length : Int) - 1)) m 56 (dp - 1)).1 m j = M1.1 m j := fun j j1 j2 => (hn_n (Or.inr j2)).trans (hn_n (Or.inr j1))
        have eo : ∀ a, a ≠ m → (mj_p0 (mj_p0 M1 m 55 ((((13 : Int) :: S').length : Int) - 1)) m 56 (dp - 1)).1 a = M1.1 a := fun a a1 => (wz_c a1).trans (wz_c a1)
        have hH : sr_H Mb n m rd sk T S' (dp - 1) iw q o (cs ++ P.map se_cv) (mj_p0 (mj_p0 M1 m 55 ((((13 : Int) :: S').length : Int) - 1)) m 56 (dp - 1)) := h1.cg (fun a a1 _ _ => eo a a1) rfl (fun j hj => em j (by omega) (by omega)) ⟨(em 53 (by decide) (by decide)).trans p1, (em 54 (by decide) (by decide)).trans p2, (hn_n (Or.inr (by decide))).trans (hn_s.trans (by omega)), hn_s, (em 57 (by decide) (by decide)).trans p5, fun j hj => by rw [eo rd (hn_ne grd gm (by decide))]; exact p6 j hj, p7.2.cg (fun j _ => by rw [eo sk (hn_ne gsk gm (by decide))])⟩
        refine w_aln rfl ?_
        refine w_cv (st := []) rfl gm rfl (Nat.le_of_ble_eq_true rfl) (fun kk h => h) (sr_next (d := d) hA hH (by rw [c41.1]; decide) (by rw [c41.1]; decide) (fun M2 s2 => ?_))
        refine w_ic ?_
        exact w_iret (fun _ => Or.inr rfl) (hQ S' M2 rfl c41 s2)
    · refine w_ifeq (fun _ => ?_) (fun c => absurd rfl c)
      exact no (Or.inr c41) _ _
  refine w_aln rfl ?_
  refine w_l2 ?_
  refine w_cv (st := []) rfl gm rfl (Nat.le_of_ble_eq_true rfl) (fun kk h => h) (sr_isWord (d := d + 1) (i := 13) hA h (by decide) (by decide +kernel) (fun c => absurd c hj) (fun _ => ?_))
  refine w_ifne (fun c => absurd rfl c) (fun _ => ?_)
  refine w_aln rfl ?_
  refine w_l2 ?_
  refine w_cv (st := []) rfl gm rfl (Nat.le_of_ble_eq_true rfl) (fun kk h => h) (sr_isWord (d := d + 1) (i := 12) hA h (by decide) (by decide +kernel) (fun c => absurd c hj2) (fun _ => ?_))
  refine w_ifeq (fun _ => ?_) (fun c => absurd rfl c)
  refine w_aln rfl ?_
  refine w_bp ?_
  refine w_cv (st := []) rfl gm rfl (Nat.le_of_ble_eq_true rfl) (fun kk h => h) ⟨Nat.le_of_ble_eq_true rfl, ?_⟩
  show wz (d + 1) mt_X12_joins.2.2.2.2.1 _ mt_X12_joins.2.2.2.2.1 [some (.inr (.inr (some m))), some (.inl 12)] [] _ _ _ _
  exact sr_joins (d := d) hA (Or.inr rfl) hS.j12 (fun M1 h1 => fin M1 _ _ h1) P cs M _ _ (fun y hy => (hP y hy).imp id (fun e => ⟨e, rfl⟩)) rfl (by omega) (by omega) h
/-- a ONE is begun -/
theorem sr_operand {dn : Nat} (hA : sr_A G Mb B n m bt rd sk T) (h : sr_H Mb n m rd sk T S (dn : Int) 0 q o cs M) (ho : o ≤ 20) (hdn : dn ≤ 9) (hl : cs.length ≤ 40) (hb : S.length ≤ 40)
    (hF : ∀ f a, (f = 1 ∧ ((¬ se_b (T q) ∧ a = (T q).2.1) ∨ (se_b (T q) ∧ ¬ (20 ≤ o ∨ 8 < dn) ∧ 17 ≤ se_j (T q) ∧ se_j (T q) < 24 ∧ ((¬ se_z (T (rv_x T q)) ∧ a = (T (rv_x T q)).2.1) ∨ (se_z (T (rv_x T q)) ∧ ¬ (T (rv_x T (rv_x T q))).1 = 2 ∧ a = (T (rv_x T (rv_x T q))).2.1))))) ∨ (f = 4 ∧ se_b (T q) ∧ (20 ≤ o ∨ 8 < dn) ∧ a = (T q).2.1) → ∀ M', sr_F Mb m rd sk f a M' → Q (some (.inl 0)) G M')
    (hN : se_b (T q) → ¬ (20 ≤ o ∨ 8 < dn) → se_j (T q) = 14 → ∀ M', sr_H Mb n m rd sk T (10 :: S) ((dn + 1 : Nat) : Int) 0 (rv_x T q) (o + 1) cs M' → Q (some (.inl 1)) G M')
    (hO : se_b (T q) → ¬ (20 ≤ o ∨ 8 < dn) → se_s (T q) 40 → ∀ M', sr_H Mb n m rd sk T (13 :: S) ((dn + 1 : Nat) : Int) 0 (rv_x T q) (o + 1) cs M' → Q (some (.inl 1)) G M')
    (hL : se_b (T q) → ¬ (20 ≤ o ∨ 8 < dn) → (se_j (T q) = 15 ∨ se_j (T q) = 16) → ∀ M', sr_H Mb n m rd sk T S (dn : Int) 1 (rv_x T q) (o + 1) (cs ++ [(se_j (T q), 0, 0)]) M' → Q (some (.inl 1)) G M')
    (hM : se_b (T q) → ¬ (20 ≤ o ∨ 8 < dn) → 17 ≤ se_j (T q) → se_j (T q) < 24 → se_z (T (rv_x T q)) → (T (rv_x T (rv_x T q))).1 = 2 → (0 ≤ (T (rv_x T (rv_x T q))).2.2.1 ∧ (T (rv_x T (rv_x T q))).2.2.1 ≤ 999) → ∀ M', sr_H Mb n m rd sk T S (dn : Int) 1 (rv_x T (rv_x T (rv_x T q))) (o + 1) (cs ++ [(se_j (T q), (T (rv_x T q)).2.2.1, (T (rv_x T (rv_x T q))).2.2.1)]) M' → Q (some (.inl 1)) G M') : mj_R mj_tab (d + 3) 222 [.inr (.inr (some m))] G M Q := by
  obtain ⟨⟨gm, gbt, grd, gsk⟩, ⟨r1, r8, r52⟩, -⟩ := id hA
  have j24 := se_j_le (T q)
  have s40 : se_s (T q) 40 → se_j (T q) = 24 := fun c => by
    rcases Nat.lt_or_ge (se_j (T q)) 24 with e | e
    · have := (se_j_lt e).1
      have := c.1
      omega
    · omega
  -- behind the three questions
  have main : ∀ (b1 b2 lf : Int), ((se_j (T q) = 14 → b1 = 1) ∧ (¬ se_j (T q) = 14 → b1 = 0)) → ((se_s (T q) 40 → b2 = 1) ∧ (¬ se_s (T q) 40 → b2 = 0)) → (((15 ≤ se_j (T q) ∧ se_j (T q) < 24) → lf = (se_j (T q) : Int) - 15) ∧ (¬ (15 ≤ se_j (T q) ∧ se_j (T q) < 24) → lf = -1)) → se_b (T q) → ∀ cb sb, wz (d + 2) mt_X12_operand.2.2.2.2.1 Q (mt_X12_operand.2.2.2.2.1.drop 21) [some (.inr (.inr (some m))), some (.inl b1), some (.inl b2), some (.inl lf), none] [] G M cb sb := by
    intro b1 b2 lf e1 e2 e3 hb' cb sb
    obtain ⟨g1, g2, g3, g4, g5, g6, p1, p2, p3, p4, p5, p6, p7⟩ := id h
    have full : (20 ≤ o ∨ 8 < dn) → ∀ cb sb, wz (d + 2) mt_X12_operand.2.2.2.2.1 Q (mt_X12_operand.2.2.2.2.1.drop 29) [some (.inr (.inr (some m))), some (.inl b1), some (.inl b2), some (.inl lf), none] [] G M cb sb := fun c cb sb => by
      refine w_aln rfl ?_
      refine w_ic ?_
      refine w_cv (st := []) rfl gm rfl (Nat.le_of_ble_eq_true rfl) (fun kk h => h) (sr_bad (d := d + 1) hA h (fun M' F => ?_))
      exact w_iret (fun _ => Or.inl rfl) (hF 4 _ (Or.inr ⟨rfl, hb', c, rfl⟩) M' F)
    refine w_aln rfl ?_
    refine w_gi gm rfl (by decide) rfl p2 ?_
    refine w_bp ?_
    refine w_cmeq (fun c => full (by omega) _ _) (fun c20 => ?_)
    refine w_aln rfl ?_
    refine w_gi gm rfl (by decide) rfl p4 ?_
    refine w_bp ?_
    refine w_cmle (fun c8 => ?_) (fun c8 => full (by omega) _ _)
    have nf : ¬ (20 ≤ o ∨ 8 < dn) := by omega
    refine w_aln rfl ?_
    refine w_dupr ?_
    refine w_gi gm rfl (by decide) rfl p2 ?_
    refine w_ic ?_
    refine w_add ⟨by omega, by omega⟩ ?_
    refine w_pi gm rfl (by decide) rfl (fun q => by first | omega | cases q) ?_
    have hk : (T q).1 ≠ 0 ∧ (T q).1 ≠ 5 := by
      rcases hb' with e | e
      · exact ⟨by rw [e.1]; decide, by rw [e.1]; decide⟩
      · have := (se_j_lt e.2).1; omega
    have hH : sr_H Mb n m rd sk T S (dn : Int) 0 q (o + 1) cs (mj_p0 M m 54 ((o : Int) + 1)) := h.cg (fun a a1 _ _ => wz_c a1) rfl (fun j hj => hn_n (Or.inr (by omega))) ⟨(hn_n (Or.inr (by decide))).trans p1, hn_s.trans rfl, (hn_n (Or.inr (by decide))).trans p3, (hn_n (Or.inr (by decide))).trans p4, (hn_n (Or.inr (by decide))).trans p5, fun j hj => by rw [wz_c (hn_ne grd gm (by decide))]; exact p6 j hj, p7.cg (fun j _ => by rw [wz_c (hn_ne gsk gm (by decide))])⟩
    refine w_aln rfl ?_
    refine w_cv (st := []) rfl gm rfl (Nat.le_of_ble_eq_true rfl) (fun kk h => h) (sr_next (d := d) hA hH hk.1 hk.2 (fun M1 s1 => ?_))
    obtain ⟨f1, f2, f3, f4, f5, f6, u1, u2, u3, u4, u5, u6, u7⟩ := id s1
    -- a stack's entry more
    have push : ∀ (y : Int) (M2 : mj_M), M2 = mj_p0 (mj_p0 (mj_p0 M1 sk S.length y) m 55 ((S.length : Int) + 1)) m 56 ((dn : Int) + 1) → sr_H Mb n m rd sk T (y :: S) ((dn + 1 : Nat) : Int) 0 (rv_x T q) (o + 1) cs M2 := fun y M2 e => by
      subst e
      have em : ∀ j, j ≠ 55 → j ≠ 56 → (mj_p0 (mj_p0 (mj_p0 M1 sk S.length y) m 55 ((S.length : Int) + 1)) m 56 ((dn : Int) + 1)).1 m j = M1.1 m j := fun j j1 j2 => (hn_n (Or.inr j2)).trans ((hn_n (Or.inr j1)).trans (hn_n (Or.inl (hn_ne gm gsk (by decide)))))
      have eo : ∀ a, a ≠ m → a ≠ sk → (mj_p0 (mj_p0 (mj_p0 M1 sk S.length y) m 55 ((S.length : Int) + 1)) m 56 ((dn : Int) + 1)).1 a = M1.1 a := fun a a1 a2 => (wz_c a1).trans ((wz_c a1).trans (wz_c a2))
      have es : (mj_p0 (mj_p0 (mj_p0 M1 sk S.length y) m 55 ((S.length : Int) + 1)) m 56 ((dn : Int) + 1)).1 sk = (mj_p0 M1 sk S.length y).1 sk := (wz_c (hn_ne gsk gm (by decide))).trans (wz_c (hn_ne gsk gm (by decide)))
      exact s1.cg (fun a a1 _ a3 => eo a a1 a3) rfl (fun j hj => em j (by omega) (by omega)) ⟨(em 53 (by decide) (by decide)).trans u1, (em 54 (by decide) (by decide)).trans u2, (hn_n (Or.inr (by decide))).trans (hn_s.trans rfl), hn_s.trans rfl, (em 57 (by decide) (by decide)).trans u5, fun j hj => by rw [eo rd (hn_ne grd gm (by decide)) (hn_ne grd gsk (by decide))]; exact u6 j hj, by rw [es]; exact hn_s, u7.cg (fun j hj => by rw [es]; exact hn_n (Or.inr (by omega)))⟩
    have tail : ∀ (y : Int) (cb sb : Nat), (∀ M2, sr_H Mb n m rd sk T (y :: S) ((dn + 1 : Nat) : Int) 0 (rv_x T q) (o + 1) cs M2 → Q (some (.inl 1)) G M2) → wz (d + 2) mt_X12_operand.2.2.2.2.1 Q (mt_X12_operand.2.2.2.2.1.drop 54) [some (.inr (.inr (some m))), some (.inl b1), some (.inl b2), some (.inl lf), none] [.inl y, .inl (S.length : Int), .inr (.inr (some sk))] G M1 cb sb := fun y cb sb hy => by
      refine w_iast gsk rfl (by decide) (by omega) (by show (S.length : Int) < ((45 : Nat) : Int); omega) ?_
      rw [Int.toNat_natCast]
      refine w_aln rfl ?_
      refine w_dupr ?_
      refine w_gi gm rfl (by decide) rfl ((hn_n (Or.inl (hn_ne gm gsk (by decide)))).trans u3) ?_
      refine w_ic ?_
      refine w_add ⟨by omega, by omega⟩ ?_
      refine w_pi gm rfl (by decide) rfl (fun q => by first | omega | cases q) ?_
      refine w_aln rfl ?_
      refine w_dupr ?_
      refine w_gi gm rfl (by decide) rfl ((hn_n (Or.inr (by decide))).trans ((hn_n (Or.inl (hn_ne gm gsk (by decide)))).trans u4)) ?_
      refine w_ic ?_
      refine w_add ⟨by omega, by omega⟩ ?_
      refine w_pi gm rfl (by decide) rfl (fun q => by first | omega | cases q) ?_
      refine w_ic ?_
      exact w_iret (fun _ => Or.inr rfl) (hy _ (push y _ rfl))
    have pu : (b1 ≠ 0 ∨ b2 ≠ 0) → ∀ cb sb, wz (d + 2) mt_X12_operand.2.2.2.2.1 Q (mt_X12_operand.2.2.2.2.1.drop 45) [some (.inr (.inr (some m))), some (.inl b1), some (.inl b2), some (.inl lf), none] [] G M1 cb sb := fun c cb sb => by
      refine w_aln rfl ?_
      refine w_gr gm rfl (by decide) rfl (by rw [f2]; exact r52) ?_
      refine w_aln rfl ?_
      refine w_gi gm rfl (by decide) rfl u3 ?_
      refine w_iln rfl ?_
      by_cases c14 : se_j (T q) = 14
      · rw [e1.1 c14]
        refine w_ifeq (fun c => absurd c (by decide)) (fun _ => ?_)
        refine w_bp ?_
        refine w_goto ?_
        have tl := tail 10 cb sb (fun M2 h2 => hN hb' nf c14 M2 h2)
        rw [e1.1 c14] at tl
        exact tl
      · rw [e1.2 c14]
        have c40 : se_s (T q) 40 := Classical.byContradiction (fun g => by have := e1.2 c14; have := e2.2 g; omega)
        refine w_ifeq (fun _ => ?_) (fun c => absurd rfl c)
        refine w_bp ?_
        have tl := tail 13 cb sb (fun M2 h2 => hO hb' nf c40 M2 h2)
        rw [e1.2 c14] at tl
        exact tl
    refine w_iln rfl ?_
    refine w_ifne (fun c => pu (Or.inl c) _ _) (fun c14 => ?_)
    refine w_iln rfl ?_
    refine w_ifeq (fun c40 => ?_) (fun c => pu (Or.inr c) _ _)
    have n14 : ¬ se_j (T q) = 14 := fun g => by have := e1.1 g; omega
    have n40 : ¬ se_s (T q) 40 := fun g => by have := e2.1 g; omega
    have hj := hb'.resolve_left n40
    have lfe := e3.1 (by omega)
    -- isWhole
    refine w_aln rfl ?_
    refine w_ic ?_
    refine w_pi gm rfl (by decide) rfl (fun q => by first | omega | cases q) ?_
    have hW : sr_H Mb n m rd sk T S (dn : Int) 1 (rv_x T q) (o + 1) cs (mj_p0 M1 m 57 1) := s1.cg (fun a a1 _ _ => wz_c a1) rfl (fun j hj => hn_n (Or.inr (by omega))) ⟨(hn_n (Or.inr (by decide))).trans u1, (hn_n (Or.inr (by decide))).trans u2, (hn_n (Or.inr (by decide))).trans u3, (hn_n (Or.inr (by decide))).trans u4, hn_s, fun j hj => by rw [wz_c (hn_ne grd gm (by decide))]; exact u6 j hj, u7.cg (fun j _ => by rw [wz_c (hn_ne gsk gm (by decide))])⟩
    have hkk : lf = se_k (se_j (T q)) := by
      unfold se_k
      rw [if_neg (by omega)]
      exact lfe
    refine w_iln rfl ?_
    refine w_ic ?_
    refine w_cmge (fun c2 => ?_) (fun c2 => ?_)
    · -- a measure
      have tq := hW.2.2.2.2.1
      have l1 := hW.2.2.2.2.2.1
      have hk1 := rv_tkc_f (sr_tw hA l1).1
      have bad1 : ¬ se_z (T (rv_x T q)) → ∀ cb sb, wz (d + 2) mt_X12_operand.2.2.2.2.1 Q (mt_X12_operand.2.2.2.2.1.drop 94) [some (.inr (.inr (some m))), some (.inl b1), some (.inl b2), some (.inl lf), none] [] G (mj_p0 M1 m 57 1) cb sb := fun c cb sb => by
        refine w_aln rfl ?_
        refine w_ic ?_
        refine w_cv (st := []) rfl gm rfl (Nat.le_of_ble_eq_true rfl) (fun kk h => h) (sr_bad (d := d + 1) hA hW (fun M' F => ?_))
        exact w_iret (fun _ => Or.inl rfl) (hF 1 _ (Or.inl ⟨rfl, Or.inr ⟨hb', nf, by omega, hj.2, Or.inl ⟨c, rfl⟩⟩⟩) M' F)
      refine w_aln rfl ?_
      refine w_gi gm rfl (by decide) rfl tq.1 ?_
      refine w_ic ?_
      refine w_cmne (fun c3 => ?_) (fun c3 => ?_)
      · refine bad1 (fun g => ?_) _ _
        rcases rv_tkc_s g.1 with e2 | e2
        · exact c3 e2.1
        · exact e2.2 (Or.inr (Or.inr (Or.inr g.2)))
      · have k3 : (T (rv_x T q)).1 = 3 := by omega
        have v14 := tq.2.2.2.2.1 k3
        refine w_aln rfl ?_
        refine w_gi gm rfl (by decide) rfl v14 ?_
        refine w_bp ?_
        refine w_cmlt (fun c60 => bad1 (fun g => by have := g.2.1; omega) _ _) (fun c60 => ?_)
        refine w_aln rfl ?_
        refine w_gi gm rfl (by decide) rfl v14 ?_
        refine w_bp ?_
        refine w_cmle (fun c62 => ?_) (fun c62 => bad1 (fun g => by have := g.2.2; omega) _ _)
        have cz : se_z (T (rv_x T q)) := ⟨k3, c60, c62⟩
        refine w_aln rfl ?_
        refine w_gi gm rfl (by decide) rfl v14 ?_
        refine w_is ?_
        refine w_aln rfl ?_
        refine w_cv (st := []) rfl gm rfl (Nat.le_of_ble_eq_true rfl) (fun kk h => h) (sr_next (d := d) hA hW (by omega) (by omega) (fun M2 s2 => ?_))
        have tq2 := s2.2.2.2.2.1
        have l2 := s2.2.2.2.2.2.1
        have hk2 := rv_tkc_f (sr_tw hA l2).1
        refine w_aln rfl ?_
        refine w_gi gm rfl (by decide) rfl tq2.1 ?_
        refine w_ic ?_
        refine w_cmeq (fun c22 => ?_) (fun c22 => ?_)
        · have k2 : (T (rv_x T (rv_x T q))).1 = 2 := by omega
          have v2 := tq2.2.2.2.1 k2
          refine w_aln rfl ?_
          refine w_iln rfl ?_
          refine w_il rfl ?_
          refine w_aln rfl ?_
          refine w_gi gm rfl (by decide) rfl v2.1 ?_
          refine w_cv (st := []) rfl gm rfl (Nat.le_of_ble_eq_true rfl) (fun kk h => h) (sr_code (d := d + 1) hA s2 (by omega) hkk (fun M3 s3 => ?_))
          refine w_aln rfl ?_
          refine w_cv (st := []) rfl gm rfl (Nat.le_of_ble_eq_true rfl) (fun kk h => h) (sr_next (d := d) hA s3 (by omega) (by omega) (fun M4 s4 => ?_))
          refine w_ic ?_
          exact w_iret (fun _ => Or.inr rfl) (hM hb' nf (by omega) hj.2 cz k2 v2.2 M4 s4)
        · refine w_aln rfl ?_
          refine w_ic ?_
          refine w_cv (st := []) rfl gm rfl (Nat.le_of_ble_eq_true rfl) (fun kk h => h) (sr_bad (d := d + 1) hA s2 (fun M' F => ?_))
          exact w_iret (fun _ => Or.inl rfl) (hF 1 _ (Or.inl ⟨rfl, Or.inr ⟨hb', nf, by omega, hj.2, Or.inr ⟨cz, by omega, rfl⟩⟩⟩) M' F)
    · refine w_aln rfl ?_
      refine w_iln rfl ?_
      refine w_ic ?_
      refine w_ic ?_
      refine w_cv (st := []) rfl gm rfl (Nat.le_of_ble_eq_true rfl) (fun kk h => h) (sr_code (d := d + 1) hA hW (by omega) hkk (fun M3 s3 => ?_))
      refine w_ic ?_
      exact w_iret (fun _ => Or.inr rfl) (hL hb' nf (by omega) M3 s3)
  have ask : ∀ (b1 b2 : Int), ((se_j (T q) = 14 → b1 = 1) ∧ (¬ se_j (T q) = 14 → b1 = 0)) → ((se_s (T q) 40 → b2 = 1) ∧ (¬ se_s (T q) 40 → b2 = 0)) → ∀ cb sb, wz (d + 2) mt_X12_operand.2.2.2.2.1 Q (mt_X12_operand.2.2.2.2.1.drop 8) [some (.inr (.inr (some m))), some (.inl b1), some (.inl b2), none, none] [] G M cb sb := by
    intro b1 b2 e1 e2 cb sb
    refine w_aln rfl ?_
    refine w_cv (st := []) rfl gm rfl (Nat.le_of_ble_eq_true rfl) (fun kk h => h) (sr_leafOf (d := d) hA h (fun lf l1 l2 => ?_))
    refine w_isn ?_
    show wz _ _ _ _ [some (.inr (.inr (some m))), some (.inl b1), some (.inl b2), some (.inl lf), none] _ _ _ _ _
    refine w_iln rfl ?_
    refine w_ifne (fun c => main b1 b2 lf e1 e2 ⟨l1, l2⟩ (Or.inr (by have := Classical.byContradiction (fun g => c (e1.2 g)); omega)) _ _) (fun c1 => ?_)
    refine w_iln rfl ?_
    refine w_ifne (fun c => main b1 b2 lf e1 e2 ⟨l1, l2⟩ (Or.inl (Classical.byContradiction (fun g => c (e2.2 g)))) _ _) (fun c2 => ?_)
    refine w_iln rfl ?_
    refine w_ifge (fun c => main b1 b2 lf e1 e2 ⟨l1, l2⟩ (Or.inr (by
      have := Classical.byContradiction (fun g => by have := l2 g; omega : ¬ ¬ (15 ≤ se_j (T q) ∧ se_j (T q) < 24))
      omega)) _ _) (fun c3 => ?_)
    refine w_aln rfl ?_
    refine w_ic ?_
    refine w_cv (st := []) rfl gm rfl (Nat.le_of_ble_eq_true rfl) (fun kk h => h) (sr_bad (d := d + 1) hA h (fun M' F => ?_))
    refine w_iret (fun _ => Or.inl rfl) (hF 1 _ (Or.inl ⟨rfl, Or.inl ⟨fun hb' => ?_, rfl⟩⟩) M' F)
    rcases hb' with g | g
    · have := e2.1 g; omega
    · by_cases c14 : se_j (T q) = 14
      · have := e1.1 c14; omega
      · have := l1 (by omega); omega
  refine ⟨Nat.le_of_ble_eq_true rfl, ?_⟩
  show wz (d + 2) mt_X12_operand.2.2.2.2.1 Q mt_X12_operand.2.2.2.2.1 [some (.inr (.inr (some m))), none, none, none, none] [] G M _ _
  have sgn : ∀ (b1 : Int), ((se_j (T q) = 14 → b1 = 1) ∧ (¬ se_j (T q) = 14 → b1 = 0)) → ∀ cb sb, wz (d + 2) mt_X12_operand.2.2.2.2.1 Q (mt_X12_operand.2.2.2.2.1.drop 4) [some (.inr (.inr (some m))), some (.inl b1), none, none, none] [] G M cb sb := by
    intro b1 e1 cb sb
    refine w_aln rfl ?_
    refine w_bp ?_
    refine w_cv (st := []) rfl gm rfl (Nat.le_of_ble_eq_true rfl) (fun kk h => h) (sr_isSign (d := d + 1) hA h (Or.inl rfl) (fun c => ?_) (fun c => ?_))
    · refine w_isn ?_
      exact ask b1 1 e1 ⟨fun _ => rfl, fun g => absurd c g⟩ _ _
    · refine w_isn ?_
      exact ask b1 0 e1 ⟨fun g => absurd g c, fun _ => rfl⟩ _ _
  refine w_aln rfl ?_
  refine w_l2 ?_
  refine w_cv (st := []) rfl gm rfl (Nat.le_of_ble_eq_true rfl) (fun kk h => h) (sr_isWord (d := d + 1) (i := 14) hA h (by decide) (by decide +kernel) (fun c => ?_) (fun c => ?_))
  · refine w_isn ?_
    exact sgn 1 ⟨fun _ => rfl, fun g => absurd c g⟩ _ _
  · refine w_isn ?_
    exact sgn 0 ⟨fun g => absurd g c, fun _ => rfl⟩ _ _
end UF
end
section
/-! ===== the reference reads a SENTENCE: its loop follows the spec ===== -/
def sr_head (G : mj_G) (Mb : mj_M) (n m rd sk : Nat) (T : Nat → (Nat × Nat × Int × List Int × Nat)) (Q : mj_P) (d : Nat) (M : mj_M) : Prop := ∀ cb sb, wz (d + 3) mt_X12_sentence.2.2.2.2.1 Q (mt_X12_sentence.2.2.2.2.1.drop 28) [some (.inr (.inr (some m))), some (.inl 1), none] [] G M cb sb
/-- the loop behind nots(), a ONE being told -/
def sr_C (G : mj_G) (Mb : mj_M) (n m rd sk : Nat) (T : Nat → (Nat × Nat × Int × List Int × Nat)) (Q : mj_P) (d : Nat) (S : List Int) (dn q o : Nat) (cs : (List (Nat × Int × Int))) : Prop := ∀ M, sr_H Mb n m rd sk T S (dn : Int) 1 q o cs M → ((T q).1 = 0 → ∀ cb sb, wz (d + 3) mt_X12_sentence.2.2.2.2.1 Q (mt_X12_sentence.2.2.2.2.1.drop 38) [some (.inr (.inr (some m))), some (.inl 1), none] [] G M cb sb) ∧ (¬ (T q).1 = 0 → ∀ cb sb cb2 sb2, wz (d + 2) mt_X12_behind.2.2.2.2.1 (fun r G M => wz (d + 3) mt_X12_sentence.2.2.2.2.1 Q (mt_X12_sentence.2.2.2.2.1.drop 61) [some (.inr (.inr (some m))), some (.inl 1), none] (mj_ret r []) G M cb2 sb2) (mt_X12_behind.2.2.2.2.1.drop 2) [some (.inr (.inr (some m)))] [] G M cb sb)
/-- .. an ALL being told, P0 waiting below -/
def sr_E (G : mj_G) (Mb : mj_M) (n m rd sk : Nat) (T : Nat → (Nat × Nat × Int × List Int × Nat)) (Q : mj_P) (d : Nat) (P0 S : List Int) (dn q o : Nat) (cs' : (List (Nat × Int × Int))) : Prop := ∀ (X : List Int) (cs : (List (Nat × Int × Int))), (X = [] ∨ X = [11]) → cs' = cs ++ X.map se_cv → ¬ se_j (T q) = 13 → sr_C G Mb n m rd sk T Q d (X ++ (P0 ++ S)) dn q o cs
/-- .. a COND being told -/
def sr_D (G : mj_G) (Mb : mj_M) (n m rd sk : Nat) (T : Nat → (Nat × Nat × Int × List Int × Nat)) (Q : mj_P) (d : Nat) (S : List Int) (dn q o : Nat) (cs' : (List (Nat × Int × Int))) : Prop := ∀ (X P0 : List Int) (cs : (List (Nat × Int × Int))), (X = [] ∨ X = [11]) → (P0 = [] ∨ P0 = [12]) → cs' = (cs ++ X.map se_cv) ++ P0.map se_cv → ¬ se_j (T q) = 13 → ¬ se_j (T q) = 12 → sr_C G Mb n m rd sk T Q d (X ++ (P0 ++ S)) dn q o cs
def sr_sO (G : mj_G) (Mb : mj_M) (n m rd sk : Nat) (T : Nat → (Nat × Nat × Int × List Int × Nat)) (Q : mj_P) (d : Nat) (N : Nat) : Prop := ∀ (k dn : Nat) (S : List Int) (q o : Nat) (cs : (List (Nat × Int × Int))) (Ko : Nat → Nat → (List (Nat × Int × Int)) → Prop), sr_n10 S → dn + k ≤ 9 → 1 ≤ dn → k + S.length + 1 ≤ 3 * (dn + k) → o ≤ 20 → cs.length + k ≤ 2 * o → se_P T (fun f a => ∀ M', sr_F Mb m rd sk f a M' → Q (some (.inl (rv_vf a))) G M') N 0 (dn + k) Ko q o cs → (∀ q' o' cs', Ko q' o' cs' → q' ≤ n → o < o' → o' ≤ 20 → cs'.length + 1 + 2 * o ≤ cs.length + 2 * o' → sr_C G Mb n m rd sk T Q d S dn q' o' (cs' ++ List.replicate k (14, 0, 0))) → ∀ M, sr_H Mb n m rd sk T (List.replicate k 10 ++ S) ((dn + k : Nat) : Int) 0 q o cs M → sr_head G Mb n m rd sk T Q d M
def sr_sK (G : mj_G) (Mb : mj_M) (n m rd sk : Nat) (T : Nat → (Nat × Nat × Int × List Int × Nat)) (Q : mj_P) (d : Nat) (N : Nat) : Prop := ∀ (dn : Nat) (S : List Int) (q o : Nat) (cs : (List (Nat × Int × Int))) (Ko : Nat → Nat → (List (Nat × Int × Int)) → Prop), sr_nb S → 1 ≤ dn → dn ≤ 9 → S.length + 3 ≤ 3 * dn → o ≤ 20 → cs.length ≤ 2 * o → se_P T (fun f a => ∀ M', sr_F Mb m rd sk f a M' → Q (some (.inl (rv_vf a))) G M') N 3 dn Ko q o cs → (∀ q' o' cs', Ko q' o' cs' → q' ≤ n → o < o' → o' ≤ 20 → cs'.length + 1 + 2 * o ≤ cs.length + 2 * o' → sr_D G Mb n m rd sk T Q d S dn q' o' cs') → ∀ M, sr_H Mb n m rd sk T S (dn : Int) 0 q o cs M → sr_head G Mb n m rd sk T Q d M
def sr_sL (G : mj_G) (Mb : mj_M) (n m rd sk : Nat) (T : Nat → (Nat × Nat × Int × List Int × Nat)) (Q : mj_P) (d : Nat) (N : Nat) : Prop := ∀ (P0 : List Int) (dn : Nat) (S : List Int) (q o : Nat) (cs : (List (Nat × Int × Int))) (Ko : Nat → Nat → (List (Nat × Int × Int)) → Prop), (P0 = [] ∨ P0 = [12]) → sr_nb S → 1 ≤ dn → dn ≤ 9 → S.length + 3 ≤ 3 * dn → o ≤ 20 → cs.length ≤ 2 * o → se_P T (fun f a => ∀ M', sr_F Mb m rd sk f a M' → Q (some (.inl (rv_vf a))) G M') N 2 dn Ko q o cs → (∀ q' o' cs', Ko q' o' cs' → q' ≤ n → o < o' → o' ≤ 20 → cs'.length + 1 + 2 * o ≤ cs.length + 2 * o' → sr_E G Mb n m rd sk T Q d P0 S dn q' o' cs') → ∀ M, sr_H Mb n m rd sk T (P0 ++ S) (dn : Int) 0 q o cs M → sr_head G Mb n m rd sk T Q d M
def sr_sA (G : mj_G) (Mb : mj_M) (n m rd sk : Nat) (T : Nat → (Nat × Nat × Int × List Int × Nat)) (Q : mj_P) (d : Nat) (N : Nat) : Prop := ∀ (X P0 : List Int) (dn : Nat) (S : List Int) (q o : Nat) (cs : (List (Nat × Int × Int))) (Ko : Nat → Nat → (List (Nat × Int × Int)) → Prop), (X = [] ∨ X = [11]) → (P0 = [] ∨ P0 = [12]) → sr_nb S → 1 ≤ dn → dn ≤ 9 → S.length + 3 ≤ 3 * dn → o ≤ 20 → cs.length + X.length + 1 ≤ 2 * o → se_P T (fun f a => ∀ M', sr_F Mb m rd sk f a M' → Q (some (.inl (rv_vf a))) G M') N 1 dn Ko q o (cs ++ X.map se_cv) → (∀ q' o' cs', Ko q' o' cs' → q' ≤ n → o ≤ o' → o' ≤ 20 → cs'.length + 2 * o ≤ cs.length + X.length + 2 * o' → sr_E G Mb n m rd sk T Q d P0 S dn q' o' cs') → sr_C G Mb n m rd sk T Q d (X ++ (P0 ++ S)) dn q o cs
def sr_sB (G : mj_G) (Mb : mj_M) (n m rd sk : Nat) (T : Nat → (Nat × Nat × Int × List Int × Nat)) (Q : mj_P) (d : Nat) (N : Nat) : Prop := ∀ (X P0 : List Int) (dn : Nat) (S : List Int) (q o : Nat) (cs : (List (Nat × Int × Int))) (Ko : Nat → Nat → (List (Nat × Int × Int)) → Prop), (X = [] ∨ X = [11]) → (P0 = [] ∨ P0 = [12]) → sr_nb S → 1 ≤ dn → dn ≤ 9 → S.length + 3 ≤ 3 * dn → o ≤ 20 → cs.length + X.length + P0.length + 1 ≤ 2 * o → ¬ se_j (T q) = 13 → se_P T (fun f a => ∀ M', sr_F Mb m rd sk f a M' → Q (some (.inl (rv_vf a))) G M') N 4 dn Ko q o ((cs ++ X.map se_cv) ++ P0.map se_cv) → (∀ q' o' cs', Ko q' o' cs' → q' ≤ n → o ≤ o' → o' ≤ 20 → cs'.length + 2 * o ≤ cs.length + X.length + P0.length + 2 * o' → sr_D G Mb n m rd sk T Q d S dn q' o' cs') → sr_C G Mb n m rd sk T Q d (X ++ (P0 ++ S)) dn q o cs
section UG
variable {G : mj_G} {Mb : mj_M} {B : Nat → Int} {n m bt rd sk : Nat} {T : Nat → (Nat × Nat × Int × List Int × Nat)} {Q : mj_P} {d : Nat}
theorem sr_x1 {X : List Int} (h : X = [] ∨ X = [11]) : (∀ y ∈ X, y = 11) ∧ X.length ≤ 1 ∧ X.map se_cv = X.map (fun _ => ((13 : Nat), (0 : Int), (0 : Int))) := by
  rcases h with rfl | rfl
  · exact ⟨(fun y hy => by cases hy), by decide, rfl⟩
  · exact ⟨fun y hy => List.mem_singleton.mp hy, by decide, rfl⟩
theorem sr_p1 {P0 : List Int} (h : P0 = [] ∨ P0 = [12]) : (∀ y ∈ P0, y = (11 : Int) ∨ y = 12) ∧ P0.length ≤ 1 := by
  rcases h with rfl | rfl
  · exact ⟨(fun y hy => by cases hy), by decide⟩
  · exact ⟨fun y hy => Or.inr (List.mem_singleton.mp hy), by decide⟩
theorem sr_pn {P0 S : List Int} (h : P0 = [] ∨ P0 = [12]) (hS : sr_nb S) : sr_n10 (P0 ++ S) ∧ (P0 ++ S = [] ∨ ∃ y S', P0 ++ S = y :: S' ∧ y ≠ 11 ∧ ¬ (y = 12 ∧ (11 : Int) = 12)) := by
  rcases h with rfl | rfl
  · refine ⟨hS.n10, ?_⟩
    rcases hS with rfl | ⟨S', rfl⟩
    · exact Or.inl rfl
    · exact Or.inr ⟨13, S', rfl, by decide, fun e => absurd e.2 (by decide)⟩
  · exact ⟨Or.inr ⟨12, S, rfl, by decide⟩, Or.inr ⟨12, S, rfl, by decide, fun e => absurd e.2 (by decide)⟩⟩
theorem sr_whole {S : List Int} {k dn q o : Nat} {cs : (List (Nat × Int × Int))} (hA : sr_A G Mb B n m bt rd sk T) (hS : sr_n10 S) (hk : cs.length + k ≤ 44) (hl : S.length + k ≤ 45) (hd : dn + k ≤ 100) (hC : sr_C G Mb n m rd sk T Q d S dn q o (cs ++ List.replicate k (14, 0, 0))) : ∀ M, sr_H Mb n m rd sk T (List.replicate k 10 ++ S) ((dn + k : Nat) : Int) 1 q o cs M → sr_head G Mb n m rd sk T Q d M := by
  intro M h cb sb
  obtain ⟨⟨gm, gbt, grd, gsk⟩, ⟨r1, r8, r52⟩, -⟩ := id hA
  obtain ⟨h1, h2, h3, h4, h5, h6, p1, p2, p3, p4, p5, p6, p7⟩ := id h
  have hk5 := rv_tkc_f (sr_tw hA h6).1
  have h' : sr_H Mb n m rd sk T (List.replicate k 10 ++ S) ((dn : Int) + (k : Int)) 1 q o cs M := by
    rw [show (dn : Int) + (k : Int) = ((dn + k : Nat) : Int) by omega]
    exact h
  refine w_iln rfl ?_
  refine w_ifeq (fun c => absurd c (by decide)) (fun _ => ?_)
  refine w_aln rfl ?_
  refine w_gi gm rfl (by decide) rfl p5 ?_
  refine w_ifeq (fun c => absurd c (by decide)) (fun _ => ?_)
  refine w_aln rfl ?_
  refine w_gi gm rfl (by decide) rfl h5.1 ?_
  refine w_ifne (fun c => ?_) (fun c => ?_)
  · refine w_aln rfl ?_
    refine w_gi gm rfl (by decide) rfl p5 ?_
    refine w_ifeq (fun c => absurd c (by decide)) (fun _ => ?_)
    refine w_aln rfl ?_
    refine w_cv (st := []) rfl gm rfl (Nat.le_of_ble_eq_true rfl) (fun kk h => h) ⟨Nat.le_of_ble_eq_true rfl, ?_⟩
    show wz (d + 2) mt_X12_behind.2.2.2.2.1 _ mt_X12_behind.2.2.2.2.1 [some (.inr (.inr (some m)))] [] _ _ _ _
    refine w_aln rfl ?_
    refine w_cv (st := []) rfl gm rfl (Nat.le_of_ble_eq_true rfl) (fun kk h => h) ⟨Nat.le_of_ble_eq_true rfl, ?_⟩
    show wz (d + 1) mt_X12_nots.2.2.2.2.1 _ mt_X12_nots.2.2.2.2.1 [some (.inr (.inr (some m)))] [] _ _ _ _
    exact sr_nots (d := d) (kk0 := k) (dp := (dn : Int)) hA hl ⟨by omega, by omega⟩ hS (fun M' h' => (hC M' h').2 (by omega) _ _ _ _) k cs M _ _ (Nat.le_refl k) rfl hk h'
  · refine w_aln rfl ?_
    refine w_cv (st := []) rfl gm rfl (Nat.le_of_ble_eq_true rfl) (fun kk h => h) ⟨Nat.le_of_ble_eq_true rfl, ?_⟩
    show wz (d + 2) mt_X12_nots.2.2.2.2.1 _ mt_X12_nots.2.2.2.2.1 [some (.inr (.inr (some m)))] [] _ _ _ _
    exact sr_nots (d := d + 1) (kk0 := k) (dp := (dn : Int)) hA hl ⟨by omega, by omega⟩ hS (fun M' h' => (hC M' h').1 (by omega) _ _) k cs M _ _ (Nat.le_refl k) rfl hk h'
/-- a call of behind, operand has told a FAULT -/
theorem sr_tellF {M : mj_M} {f : Int} {a : Nat} (gm : G m = (1012, 0)) (hF : sr_F Mb m rd sk f a M) (hQ : Q (some (.inl (rv_vf a))) G M) (v2 : Option mj_V) (cb sb : Nat) : wz (d + 3) mt_X12_sentence.2.2.2.2.1 Q (mt_X12_sentence.2.2.2.2.1.drop 66) [some (.inr (.inr (some m))), some (.inl 1), v2] [] G M cb sb := by
  refine w_ic ?_
  refine w_aln rfl ?_
  refine w_gi gm rfl (by decide) rfl hF.2.1 ?_
  refine w_subw ?_
  intro z hz ez
  have ev : z = rv_vf a := ez
  rw [ev]
  exact w_iret (fun q => by cases q) hQ
theorem sr_A1 {N : Nat} (hA : sr_A G Mb B n m bt rd sk T) (hO : sr_sO G Mb n m rd sk T Q d N) (hI : sr_sA G Mb n m rd sk T Q d N) : sr_sA G Mb n m rd sk T Q d (N + 1) := by
  intro X P0 dn S q o cs Ko hX hP hS d1 d9 hl ho hc h hk M hH
  have gm := hA.1.1
  obtain ⟨x1, x2, x3⟩ := sr_x1 hX
  obtain ⟨y1, y2⟩ := sr_p1 hP
  obtain ⟨w1, w2⟩ := sr_pn hP hS
  have qn := hH.2.2.2.2.2.1
  have le : (P0 ++ S).length = P0.length + S.length := List.length_append
  have lx : (cs ++ X.map se_cv).length = cs.length + X.length := by rw [List.length_append, List.length_map]
  by_cases c : se_j (T q) = 13
  · have k1 := (se_j_lt (t := T q) (by omega)).1
    refine ⟨fun e => by exfalso; omega, fun _ cb sb cb2 sb2 => ?_⟩
    refine sr_bAnd (d := d) (X := X) (R := P0 ++ S) hA x1 w2 hH c (by omega) (by omega) (fun M' hM' => ?_) cb sb
    refine w_ifne (fun _ => ?_) (fun c => absurd c (by decide))
    refine hO 0 dn (11 :: (P0 ++ S)) (rv_x T q) o _ _ (Or.inr ⟨11, _, rfl, by decide⟩) d9 d1 (by show 0 + ((P0 ++ S).length + 1) + 1 ≤ 3 * (dn + 0); omega) ho (by omega) (h.1 c) (fun q' o' cs' hk' l1 l2 l3 l4 => ?_) M' hM' cb2 sb2
    have e0 : cs' ++ List.replicate 0 ((14 : Nat), (0 : Int), (0 : Int)) = cs' := List.append_nil cs'
    rw [e0]
    exact hI [11] P0 dn S q' o' cs' Ko (Or.inr rfl) hP hS d1 d9 hl l3 (by show cs'.length + 1 + 1 ≤ 2 * o'; omega) hk' (fun q'' o'' cs'' hk2 g1 g2 g3 g4 => hk q'' o'' cs'' hk2 g1 (by omega) g3 (by have g4 : cs''.length + 2 * o' ≤ cs'.length + 1 + 2 * o'' := g4; omega))
  · exact hk q o _ (h.2 c) qn (Nat.le_refl o) ho (by omega) X cs hX rfl c M hH
theorem sr_B1 {N : Nat} (hA : sr_A G Mb B n m bt rd sk T) (hL : sr_sL G Mb n m rd sk T Q d N) (hI : sr_sB G Mb n m rd sk T Q d N) : sr_sB G Mb n m rd sk T Q d (N + 1) := by
  intro X P0 dn S q o cs Ko hX hP hS d1 d9 hl ho hc n13 h hk M hH
  have gm := hA.1.1
  obtain ⟨x1, x2, x3⟩ := sr_x1 hX
  obtain ⟨y1, y2⟩ := sr_p1 hP
  have qn := hH.2.2.2.2.2.1
  have lx : ((cs ++ X.map se_cv) ++ P0.map se_cv).length = cs.length + X.length + P0.length := by rw [List.length_append, List.length_append, List.length_map, List.length_map]
  by_cases c : se_j (T q) = 12
  · have k1 := (se_j_lt (t := T q) (by omega)).1
    refine ⟨fun e => by exfalso; omega, fun _ cb sb cb2 sb2 => ?_⟩
    have hH2 : sr_H Mb n m rd sk T ((X ++ P0) ++ S) (dn : Int) 1 q o cs M := by rw [List.append_assoc]; exact hH
    refine sr_bOr (d := d) (P := X ++ P0) hA (fun y hy => (List.mem_append.mp hy).elim (fun z => Or.inl (x1 y z)) (y1 y)) hS hH2 c (by rw [List.length_append]; omega) (by rw [List.length_append]; omega) (fun M' hM' => ?_) cb sb
    rw [List.map_append, ← List.append_assoc] at hM'
    refine w_ifne (fun _ => ?_) (fun c => absurd c (by decide))
    refine hL [12] dn S (rv_x T q) o _ _ (Or.inr rfl) hS d1 d9 hl ho (by omega) (h.1 c) (fun q' o' cs' hk' l1 l2 l3 l4 => ?_) M' hM' cb2 sb2
    intro X2 cs2 hX2 e2 n13'
    obtain ⟨u1, u2, u3⟩ := sr_x1 hX2
    have l2' : cs'.length = cs2.length + X2.length := by rw [e2, List.length_append, List.length_map]
    refine hI X2 [12] dn S q' o' cs2 Ko hX2 (Or.inr rfl) hS d1 d9 hl l3 (by show cs2.length + X2.length + 1 + 1 ≤ 2 * o'; omega) n13' (by rw [← e2]; exact hk') (fun q'' o'' cs'' hk2 g1 g2 g3 g4 => hk q'' o'' cs'' hk2 g1 (by omega) g3 (by have g4 : cs''.length + 2 * o' ≤ cs2.length + X2.length + 1 + 2 * o'' := g4; omega))
  · exact hk q o _ (h.2 c) qn (Nat.le_refl o) ho (by omega) X P0 cs hX hP rfl n13 c M hH
theorem sr_L1 {N : Nat} (hA : sr_A G Mb B n m bt rd sk T) (hO : sr_sO G Mb n m rd sk T Q d N) (hI : sr_sA G Mb n m rd sk T Q d N) : sr_sL G Mb n m rd sk T Q d (N + 1) := by
  intro P0 dn S q o cs Ko hP hS d1 d9 hl ho hc h hk M hH
  obtain ⟨y1, y2⟩ := sr_p1 hP
  obtain ⟨w1, w2⟩ := sr_pn hP hS
  have le : (P0 ++ S).length = P0.length + S.length := List.length_append
  refine hO 0 dn (P0 ++ S) q o cs _ w1 d9 d1 (by show 0 + (P0 ++ S).length + 1 ≤ 3 * (dn + 0); omega) ho hc h (fun q' o' cs' hk' l1 l2 l3 l4 => ?_) M hH
  have e0 : cs' ++ List.replicate 0 ((14 : Nat), (0 : Int), (0 : Int)) = cs' := List.append_nil cs'
  rw [e0]
  exact hI [] P0 dn S q' o' cs' Ko (Or.inl rfl) hP hS d1 d9 hl l3 (by show cs'.length + 0 + 1 ≤ 2 * o'; omega) (by show se_P T _ N 1 dn Ko q' o' (cs' ++ []); rw [List.append_nil]; exact hk') (fun q'' o'' cs'' hk2 g1 g2 g3 g4 => hk q'' o'' cs'' hk2 g1 (by omega) g3 (by have g4 : cs''.length + 2 * o' ≤ cs'.length + 0 + 2 * o'' := g4; omega))
theorem sr_K1 {N : Nat} (hA : sr_A G Mb B n m bt rd sk T) (hL : sr_sL G Mb n m rd sk T Q d N) (hI : sr_sB G Mb n m rd sk T Q d N) : sr_sK G Mb n m rd sk T Q d (N + 1) := by
  intro dn S q o cs Ko hS d1 d9 hl ho hc h hk M hH
  refine hL [] dn S q o cs _ (Or.inl rfl) hS d1 d9 hl ho hc h (fun q' o' cs' hk' l1 l2 l3 l4 => ?_) M hH
  intro X2 cs2 hX2 e2 n13'
  obtain ⟨u1, u2, u3⟩ := sr_x1 hX2
  have l2' : cs'.length = cs2.length + X2.length := by rw [e2, List.length_append, List.length_map]
  exact hI X2 [] dn S q' o' cs2 Ko hX2 (Or.inl rfl) hS d1 d9 hl l3 (by show cs2.length + X2.length + 0 + 1 ≤ 2 * o'; omega) n13' (by show se_P T _ N 4 dn Ko q' o' ((cs2 ++ X2.map se_cv) ++ []); rw [List.append_nil, ← e2]; exact hk') (fun q'' o'' cs'' hk2 g1 g2 g3 g4 => hk q'' o'' cs'' hk2 g1 (by omega) g3 (by have g4 : cs''.length + 2 * o' ≤ cs2.length + X2.length + 0 + 2 * o'' := g4; omega))
theorem sr_O1 {N : Nat} (hA : sr_A G Mb B n m bt rd sk T) (hO : sr_sO G Mb n m rd sk T Q d N) (hK : sr_sK G Mb n m rd sk T Q d N) : sr_sO G Mb n m rd sk T Q d (N + 1) := by
  intro k dn S q o cs Ko hS d9 d1 hl ho hc h hk M hH cb sb
  obtain ⟨⟨gm, gbt, grd, gsk⟩, ⟨r1, r8, r52⟩, -⟩ := id hA
  have p5 := hH.2.2.2.2.2.2.2.2.2.2.1
  have lr : (List.replicate k (10 : Int) ++ S).length = k + S.length := by rw [List.length_append, List.length_replicate]
  have whole : ∀ q' o' cs', Ko q' o' cs' → q' ≤ n → o < o' → o' ≤ 20 → cs'.length + 1 + 2 * o ≤ cs.length + 2 * o' → ∀ M', sr_H Mb n m rd sk T (List.replicate k 10 ++ S) ((dn + k : Nat) : Int) 1 q' o' cs' M' → sr_head G Mb n m rd sk T Q d M' := fun q' o' cs' hk' l1 l2 l3 l4 => sr_whole hA hS (by omega) (by omega) (by omega) (hk q' o' cs' hk' l1 l2 l3 l4)
  refine w_iln rfl ?_
  refine w_ifeq (fun c => absurd c (by decide)) (fun _ => ?_)
  refine w_aln rfl ?_
  refine w_gi gm rfl (by decide) rfl p5 ?_
  refine w_ifeq (fun _ => ?_) (fun c => absurd rfl c)
  refine w_aln rfl ?_
  refine w_gi gm rfl (by decide) rfl p5 ?_
  refine w_ifeq (fun _ => ?_) (fun c => absurd rfl c)
  refine w_aln rfl ?_
  refine w_cv (st := []) rfl gm rfl (Nat.le_of_ble_eq_true rfl) (fun kk h => h) (sr_operand (d := d) (dn := dn + k) hA hH ho d9 (by omega) (by omega) (fun f a hfa M' F => ?_) (fun cb' nf c14 M' s => ?_) (fun cb' nf c40 M' s => ?_) (fun cb' nf c15 M' s => ?_) (fun cb' nf c17 c24 cz k2 hv M' s => ?_))
  · refine w_ifne (fun c => absurd rfl c) (fun _ => ?_)
    refine sr_tellF gm F ?_ _ _ _
    rcases hfa with ⟨rfl, hb | ⟨hb, nf, j17, j24, hz⟩⟩ | ⟨rfl, hb, hfull, rfl⟩
    · obtain ⟨hb, rfl⟩ := hb
      exact h.2 hb M' F
    · have hm := ((h.1 hb).2 nf).2.2.2 j17 j24
      rcases hz with ⟨nz, rfl⟩ | ⟨cz, n2, rfl⟩
      · exact hm.2 nz M' F
      · exact (hm.1 cz).2 n2 M' F
    · exact (h.1 hb).1 hfull M' F
  · refine w_ifne (fun _ => ?_) (fun c => absurd c (by decide))
    refine hO (k + 1) dn S (rv_x T q) (o + 1) cs _ hS (by omega) d1 (by omega) (by omega) (by omega) (((h.1 cb').2 nf).2.1 c14) (fun q' o' cs' hk' l1 l2 l3 l4 => ?_) M' s cb sb
    have e1 : cs' ++ List.replicate (k + 1) ((14 : Nat), (0 : Int), (0 : Int)) = (cs' ++ [(14, 0, 0)]) ++ List.replicate k (14, 0, 0) := by rw [List.append_assoc]; rfl
    rw [e1]
    exact hk q' o' _ hk' l1 (by omega) l3 (by rw [se_len]; omega)
  · refine w_ifne (fun _ => ?_) (fun c => absurd c (by decide))
    refine hK (dn + k + 1) (13 :: (List.replicate k 10 ++ S)) (rv_x T q) (o + 1) cs _ (Or.inr ⟨_, rfl⟩) (by omega) (by omega) (by show (List.replicate k (10 : Int) ++ S).length + 1 + 3 ≤ 3 * (dn + k + 1); omega) (by omega) (by omega) (((h.1 cb').2 nf).1 c40) (fun q' o' cs' hk' l1 l2 l3 l4 => ?_) M' s cb sb
    intro X P0 cs2 hX hP e2 n13 n12 M2 h2
    obtain ⟨x1, x2, x3⟩ := sr_x1 hX
    obtain ⟨y1, y2⟩ := sr_p1 hP
    have l2' : cs'.length = cs2.length + X.length + P0.length := by rw [e2, List.length_append, List.length_append, List.length_map, List.length_map]
    have e3 : cs2 ++ (X ++ P0).map se_cv = cs' := by rw [List.map_append, ← List.append_assoc]; exact e2.symm
    have h2' : sr_H Mb n m rd sk T ((X ++ P0) ++ (13 :: (List.replicate k 10 ++ S))) ((dn + k + 1 : Nat) : Int) 1 q' o' cs2 M2 := by rw [List.append_assoc]; exact h2
    have hy : ∀ y ∈ X ++ P0, y = (11 : Int) ∨ y = 12 := fun y hy => (List.mem_append.mp hy).elim (fun z => Or.inl (x1 y z)) (y1 y)
    have lxp : (X ++ P0).length = X.length + P0.length := List.length_append
    have lb : (13 :: (List.replicate k (10 : Int) ++ S)).length = k + S.length + 1 := by show (List.replicate k (10 : Int) ++ S).length + 1 = _; rw [lr]
    refine ⟨fun e0 cb sb => ?_, fun e0 cb sb cb2 sb2 => ?_⟩
    · -- the text ends within a bracket
      have n41 : ¬ se_s (T q') 41 := fun g => by have := g.1; omega
      refine w_aln rfl ?_
      refine w_bp ?_
      refine w_cv (st := []) rfl gm rfl (Nat.le_of_ble_eq_true rfl) (fun kk h => h) ⟨Nat.le_of_ble_eq_true rfl, ?_⟩
      show wz (d + 2) mt_X12_joins.2.2.2.2.1 _ mt_X12_joins.2.2.2.2.1 [some (.inr (.inr (some m))), some (.inl 12)] [] _ _ _ _
      refine sr_joins (d := d + 1) hA (Or.inr rfl) (sr_nb.j12 (Or.inr ⟨_, rfl⟩)) (fun M3 h3 => ?_) (X ++ P0) cs2 M2 _ _ (fun y hy' => (hy y hy').imp id (fun e => ⟨e, rfl⟩)) e3 (by omega) (by omega) h2'
      have p3 := h3.2.2.2.2.2.2.2.2.1
      refine w_aln rfl ?_
      refine w_gi gm rfl (by decide) rfl p3 ?_
      have tl : (((13 : Int) :: (List.replicate k 10 ++ S)).length : Int) = ((k + S.length + 1 : Nat) : Int) := by rw [lb]
      refine w_ifle (fun c => by exfalso; omega) (fun _ => ?_)
      refine w_aln rfl ?_
      refine w_ic ?_
      refine w_cv (st := []) rfl gm rfl (Nat.le_of_ble_eq_true rfl) (fun kk h => h) (sr_bad (d := d + 2) hA h3 (fun M4 F4 => ?_))
      refine w_pop ?_
      refine w_ic ?_
      refine w_aln rfl ?_
      refine w_gi gm rfl (by decide) rfl F4.2.1 ?_
      refine w_subw ?_
      intro z hz ez
      have ev : z = rv_vf (T q').2.1 := ez
      rw [ev]
      exact w_iret (fun q => by cases q) (hk'.2 n41 M4 F4)
    · refine sr_bElse (d := d) (P := X ++ P0) hA hy (Or.inr ⟨_, rfl⟩) h2' n13 n12 (by omega) (by omega) ⟨by omega, by omega⟩ (fun S' M3 eS c41 s3 => ?_) (fun cF M3 F3 => ?_) cb sb
      · obtain rfl : S' = List.replicate k 10 ++ S := (List.cons.inj eS).2.symm
        rw [e3] at s3
        refine w_ifne (fun _ => ?_) (fun c => absurd c (by decide))
        refine whole (rv_x T q') o' cs' (hk'.1 c41) (sr_xl hA l1) (by omega) l3 (by omega) M3 ?_ cb2 sb2
        rw [show ((dn + k + 1 : Nat) : Int) - 1 = ((dn + k : Nat) : Int) by omega] at s3
        exact s3
      · refine w_ifne (fun c => absurd rfl c) (fun _ => ?_)
        refine w_goto ?_
        refine sr_tellF gm F3 ?_ _ _ _
        rcases cF with cF | cF
        · cases cF
        · exact hk'.2 cF M3 F3
  · refine w_ifne (fun _ => ?_) (fun c => absurd c (by decide))
    exact whole _ _ _ (((h.1 cb').2 nf).2.2.1 c15) s.2.2.2.2.2.1 (by omega) (by omega) (by rw [se_len]; omega) M' s cb sb
  · refine w_ifne (fun _ => ?_) (fun c => absurd c (by decide))
    have hm := (((h.1 cb').2 nf).2.2.2 c17 c24).1 cz
    exact whole _ _ _ (((hm.1 k2).1 hv.1).1 hv.2) s.2.2.2.2.2.1 (by omega) (by omega) (by rw [se_len]; omega) M' s cb sb
theorem sr_all (hA : sr_A G Mb B n m bt rd sk T) : ∀ N : Nat, sr_sO G Mb n m rd sk T Q d N ∧ sr_sA G Mb n m rd sk T Q d N ∧ sr_sL G Mb n m rd sk T Q d N ∧ sr_sK G Mb n m rd sk T Q d N ∧ sr_sB G Mb n m rd sk T Q d N
  | 0 => ⟨fun _ _ _ _ _ _ _ _ _ _ _ _ _ h => False.elim h, fun _ _ _ _ _ _ _ _ _ _ _ _ _ _ _ _ h => False.elim h, fun _ _ _ _ _ _ _ _ _ _ _ _ _ _ h => False.elim h, fun _ _ _ _ _ _ _ _ _ _ _ _ h => False.elim h, fun _ _ _ _ _ _ _ _ _ _ _ _ _ _ _ _ _ h => False.elim h⟩
  | N + 1 => by
    obtain ⟨hO, hI, hL, hK, hB⟩ := sr_all hA N
    exact ⟨sr_O1 hA hO hK, sr_A1 hA hO hI, sr_L1 hA hO hI, sr_K1 hA hL hB, sr_B1 hA hL hB⟩
end UG
end
section
/-! ===== the reference's sentence() ===== -/
/-- s tells the codes cs -/
def sq_R (s : Nat) (cs : (List (Nat × Int × Int))) (M : mj_M) : Prop := M.1 s 356 = (cs.length : Int) ∧ ∀ j, j < cs.length → M.1 s (357 + 3 * j) = se_k (cs.getD j (0, 0, 0)).1 ∧ M.1 s (358 + 3 * j) = (cs.getD j (0, 0, 0)).2.1 ∧ M.1 s (359 + 3 * j) = (cs.getD j (0, 0, 0)).2.2
def sq_O (m s : Nat) (cs : (List (Nat × Int × Int))) (M M' : mj_M) : Prop := sq_R s cs M' ∧ (∀ j, j < 356 → M'.1 s j = M.1 s j) ∧ M'.1 m 15 = 0
section UH
variable {G : mj_G} {M : mj_M} {B : Nat → Int} {n m bt rd sk s : Nat} {T : Nat → (Nat × Nat × Int × List Int × Nat)} {Q : mj_P} {d : Nat}
theorem sq_cp {Mc : mj_M} {L : Nat} (gm : G m = (1012, 0)) (gs : G s = (51100, 537)) (grd : G rd = (53100, 135)) (m6 : Mc.2.2 m 6 = some s) (m8 : Mc.2.2 m 8 = some rd) (m53 : Mc.1 m 53 = (L : Int)) (hL : L ≤ 45) (hQ : ∀ M', M'.2 = Mc.2 → (∀ a, a ≠ s → M'.1 a = Mc.1 a) → (∀ j, j < 3 * L → M'.1 s (357 + j) = Mc.1 rd j) → (∀ j, j < 357 → M'.1 s j = Mc.1 s j) → Q (some (.inl (Mc.1 m 54))) G M') : ∀ (k i : Nat) (M : mj_M) (cb sb : Nat), i + k = 3 * L → M.2 = Mc.2 → (∀ a, a ≠ s → M.1 a = Mc.1 a) → (∀ j, j < i → M.1 s (357 + j) = Mc.1 rd j) → (∀ j, j < 357 → M.1 s j = Mc.1 s j) → wz d mt_X12_sentence.2.2.2.2.1 Q (mt_X12_sentence.2.2.2.2.1.drop 79) [some (.inr (.inr (some m))), some (.inl 0), some (.inl (i : Int))] [] G M cb sb := by
  have ms : m ≠ s := hn_ne gm gs (by decide)
  have rs : rd ≠ s := hn_ne grd gs (by decide)
  intro k
  induction k with
  | zero =>
    intro i M cb sb e h1 h2 h3 h4
    refine w_iln rfl ?_
    refine w_ic ?_
    refine w_aln rfl ?_
    refine w_gi gm rfl (by decide) rfl ((congrFun (h2 m ms) 53).trans m53) ?_
    refine w_mul ⟨by omega, by omega⟩ ?_
    refine w_cmge (fun c => ?_) (fun c => by exfalso; omega)
    refine w_aln rfl ?_
    refine w_gi gm rfl (by decide) rfl (congrFun (h2 m ms) 54) ?_
    exact w_iret (fun q => by cases q) (hQ M h1 h2 (fun j hj => h3 j (by omega)) h4)
  | succ k ih =>
    intro i M cb sb e h1 h2 h3 h4
    refine w_iln rfl ?_
    refine w_ic ?_
    refine w_aln rfl ?_
    refine w_gi gm rfl (by decide) rfl ((congrFun (h2 m ms) 53).trans m53) ?_
    refine w_mul ⟨by omega, by omega⟩ ?_
    refine w_cmge (fun c => by exfalso; omega) (fun c => ?_)
    refine w_aln rfl ?_
    refine w_gr gm rfl (by decide) rfl (by rw [h1]; exact m6) ?_
    refine w_sp ?_
    refine w_iln rfl ?_
    refine w_add ⟨by omega, by omega⟩ ?_
    refine w_aln rfl ?_
    refine w_gr gm rfl (by decide) rfl (by rw [h1]; exact m8) ?_
    refine w_iln rfl ?_
    refine w_iald (v := Mc.1 rd i) grd rfl (by omega) (by show (i : Int) < ((135 : Nat) : Int); omega) (by rw [Int.toNat_natCast]; exact congrFun (h2 rd rs) i) ?_
    refine w_iast gs rfl (by decide) (by omega) (by show (357 : Int) + (i : Int) < ((537 : Nat) : Int); omega) ?_
    rw [show ((357 : Int) + (i : Int)).toNat = 357 + i by omega]
    refine w_ii rfl ⟨by omega, by omega⟩ ?_
    refine w_goto ?_
    refine ih (i + 1) _ _ _ (by omega) h1 (fun a ha => (wz_c ha).trans (h2 a ha)) (fun j hj => ?_) (fun j hj => (hn_n (Or.inr (by omega))).trans (h4 j hj))
    by_cases c2 : j = i
    · rw [c2]; exact hn_s
    · exact (hn_n (Or.inr (by omega))).trans (h3 j (by omega))
theorem r_X12_sentence (gm : G m = (1012, 0)) (gbt : G bt = (50101, 940)) (grd : G rd = (53100, 135)) (gsk : G sk = (68100, 45)) (gs : G s = (51100, 537)) (m1 : M.2.2 m 1 = some bt) (m6 : M.2.2 m 6 = some s) (m8 : M.2.2 m 8 = some rd) (m52 : M.2.2 m 52 = some sk) (rb : ∀ k, rv_u8 (M.1 bt k) = B k) (n1 : n ≤ 940) (hn : M.1 m 2 = (n : Int)) (hT : T = rv_T B n 200) (h : se_A T (fun f a => ∀ M', M'.1 s = M.1 s ∧ M'.1 m 15 = f → Q (some (.inl (rv_vf a))) G M') (fun o cs => 0 < o → o ≤ 20 → cs.length + 1 ≤ 2 * o → ∀ M', sq_O m s cs M M' → Q (some (.inl (o : Int))) G M') (4 * n + 7)) : mj_R mj_tab (d + 4) 239 [.inr (.inr (some m))] G M Q := by
  have bm : bt ≠ m := hn_ne gbt gm (by decide)
  have sm : s ≠ m := hn_ne gs gm (by decide)
  refine ⟨Nat.le_of_ble_eq_true rfl, ?_⟩
  show wz (d + 3) mt_X12_sentence.2.2.2.2.1 Q mt_X12_sentence.2.2.2.2.1 [some (.inr (.inr (some m))), none, none] [] G M _ _
  refine w_aln rfl ?_
  refine w_ic ?_
  refine w_pi gm rfl (by decide) rfl (fun q => by first | omega | cases q) ?_
  refine w_aln rfl ?_
  refine w_sp ?_
  refine w_cv (st := []) rfl gm rfl (Nat.le_of_ble_eq_true rfl) (fun kk h => h) ⟨Nat.le_of_ble_eq_true rfl, ?_⟩
  show wz (d + 2) mt_X12_taken.2.2.2.2.1 _ mt_X12_taken.2.2.2.2.1 [some (.inr (.inr (some m))), some (.inl 200)] [] _ _ _ _
  refine w_aln rfl ?_
  refine w_aln rfl ?_
  refine w_gi gm rfl (by decide) rfl (v := (n : Int)) ((hn_n (Or.inr (by decide))).trans hn) ?_
  refine w_pi gm rfl (by decide) rfl (fun q => by first | omega | cases q) ?_
  refine w_aln rfl ?_
  refine w_ic ?_
  refine w_pi gm rfl (by decide) rfl (fun q => by first | omega | cases q) ?_
  refine w_aln rfl ?_
  refine w_ic ?_
  refine w_pi gm rfl (by decide) rfl (fun q => by first | omega | cases q) ?_
  refine w_aln rfl ?_
  refine w_iln rfl ?_
  refine w_pi gm rfl (by decide) rfl (fun q => by first | omega | cases q) ?_
  refine w_ret ?_
  refine w_aln rfl ?_
  refine w_ic ?_
  refine w_pi gm rfl (by decide) rfl (fun q => by first | omega | cases q) ?_
  refine w_aln rfl ?_
  refine w_ic ?_
  refine w_pi gm rfl (by decide) rfl (fun q => by first | omega | cases q) ?_
  refine w_aln rfl ?_
  refine w_ic ?_
  refine w_pi gm rfl (by decide) rfl (fun q => by first | omega | cases q) ?_
  refine w_aln rfl ?_
  refine w_ic ?_
  refine w_pi gm rfl (by decide) rfl (fun q => by first | omega | cases q) ?_
  refine w_aln rfl ?_
  refine w_ic ?_
  refine w_pi gm rfl (by decide) rfl (fun q => by first | omega | cases q) ?_
  refine w_aln rfl ?_
  refine w_ic ?_
  refine w_pi gm rfl (by decide) rfl (fun q => by first | omega | cases q) ?_
  refine w_aln rfl ?_
  have eo : ∀ a, a ≠ m → (mj_p0 (mj_p0 (mj_p0 (mj_p0 (mj_p0 (mj_p0 (mj_p0 (mj_p0 (mj_p0 (mj_p0 (mj_p0 M m 0 0) m 3 (n : Int)) m 2 0) m 4 0) m 5 200) m 15 0) m 53 0) m 54 0) m 55 0) m 56 1) m 57 0).1 a = M.1 a := fun a ha => (wz_c ha).trans ((wz_c ha).trans ((wz_c ha).trans ((wz_c ha).trans ((wz_c ha).trans ((wz_c ha).trans ((wz_c ha).trans ((wz_c ha).trans ((wz_c ha).trans ((wz_c ha).trans (wz_c ha))))))))))
  have hA : sr_A G (mj_p0 (mj_p0 (mj_p0 (mj_p0 (mj_p0 (mj_p0 (mj_p0 (mj_p0 (mj_p0 (mj_p0 (mj_p0 M m 0 0) m 3 (n : Int)) m 2 0) m 4 0) m 5 200) m 15 0) m 53 0) m 54 0) m 55 0) m 56 1) m 57 0) B n m bt rd sk T := ⟨⟨gm, gbt, grd, gsk⟩, ⟨m1, m8, m52⟩, fun k => by rw [eo bt bm]; exact rb k, n1, (hn_n (Or.inr (by decide))).trans ((hn_n (Or.inr (by decide))).trans ((hn_n (Or.inr (by decide))).trans ((hn_n (Or.inr (by decide))).trans ((hn_n (Or.inr (by decide))).trans ((hn_n (Or.inr (by decide))).trans ((hn_n (Or.inr (by decide))).trans ((hn_n (Or.inr (by decide))).trans ((hn_n (Or.inr (by decide))).trans (hn_s))))))))), (hn_n (Or.inr (by decide))).trans ((hn_n (Or.inr (by decide))).trans ((hn_n (Or.inr (by decide))).trans ((hn_n (Or.inr (by decide))).trans ((hn_n (Or.inr (by decide))).trans ((hn_n (Or.inr (by decide))).trans (hn_s)))))), hT⟩
  have b4 : (mj_p0 (mj_p0 (mj_p0 (mj_p0 (mj_p0 (mj_p0 (mj_p0 (mj_p0 (mj_p0 (mj_p0 (mj_p0 M m 0 0) m 3 (n : Int)) m 2 0) m 4 0) m 5 200) m 15 0) m 53 0) m 54 0) m 55 0) m 56 1) m 57 0).1 m 4 = ((0 : Nat) : Int) := (hn_n (Or.inr (by decide))).trans ((hn_n (Or.inr (by decide))).trans ((hn_n (Or.inr (by decide))).trans ((hn_n (Or.inr (by decide))).trans ((hn_n (Or.inr (by decide))).trans ((hn_n (Or.inr (by decide))).trans ((hn_n (Or.inr (by decide))).trans (hn_s)))))))
  have b15 : (mj_p0 (mj_p0 (mj_p0 (mj_p0 (mj_p0 (mj_p0 (mj_p0 (mj_p0 (mj_p0 (mj_p0 (mj_p0 M m 0 0) m 3 (n : Int)) m 2 0) m 4 0) m 5 200) m 15 0) m 53 0) m 54 0) m 55 0) m 56 1) m 57 0).1 m 15 = 0 := (hn_n (Or.inr (by decide))).trans ((hn_n (Or.inr (by decide))).trans ((hn_n (Or.inr (by decide))).trans ((hn_n (Or.inr (by decide))).trans ((hn_n (Or.inr (by decide))).trans (hn_s)))))
  have b53 : (mj_p0 (mj_p0 (mj_p0 (mj_p0 (mj_p0 (mj_p0 (mj_p0 (mj_p0 (mj_p0 (mj_p0 (mj_p0 M m 0 0) m 3 (n : Int)) m 2 0) m 4 0) m 5 200) m 15 0) m 53 0) m 54 0) m 55 0) m 56 1) m 57 0).1 m 53 = 0 := (hn_n (Or.inr (by decide))).trans ((hn_n (Or.inr (by decide))).trans ((hn_n (Or.inr (by decide))).trans ((hn_n (Or.inr (by decide))).trans (hn_s))))
  have b54 : (mj_p0 (mj_p0 (mj_p0 (mj_p0 (mj_p0 (mj_p0 (mj_p0 (mj_p0 (mj_p0 (mj_p0 (mj_p0 M m 0 0) m 3 (n : Int)) m 2 0) m 4 0) m 5 200) m 15 0) m 53 0) m 54 0) m 55 0) m 56 1) m 57 0).1 m 54 = 0 := (hn_n (Or.inr (by decide))).trans ((hn_n (Or.inr (by decide))).trans ((hn_n (Or.inr (by decide))).trans (hn_s)))
  have b55 : (mj_p0 (mj_p0 (mj_p0 (mj_p0 (mj_p0 (mj_p0 (mj_p0 (mj_p0 (mj_p0 (mj_p0 (mj_p0 M m 0 0) m 3 (n : Int)) m 2 0) m 4 0) m 5 200) m 15 0) m 53 0) m 54 0) m 55 0) m 56 1) m 57 0).1 m 55 = 0 := (hn_n (Or.inr (by decide))).trans ((hn_n (Or.inr (by decide))).trans (hn_s))
  have b56 : (mj_p0 (mj_p0 (mj_p0 (mj_p0 (mj_p0 (mj_p0 (mj_p0 (mj_p0 (mj_p0 (mj_p0 (mj_p0 M m 0 0) m 3 (n : Int)) m 2 0) m 4 0) m 5 200) m 15 0) m 53 0) m 54 0) m 55 0) m 56 1) m 57 0).1 m 56 = 1 := (hn_n (Or.inr (by decide))).trans (hn_s)
  have b57 : (mj_p0 (mj_p0 (mj_p0 (mj_p0 (mj_p0 (mj_p0 (mj_p0 (mj_p0 (mj_p0 (mj_p0 (mj_p0 M m 0 0) m 3 (n : Int)) m 2 0) m 4 0) m 5 200) m 15 0) m 53 0) m 54 0) m 55 0) m 56 1) m 57 0).1 m 57 = 0 := hn_s
  have m6' : (mj_p0 (mj_p0 (mj_p0 (mj_p0 (mj_p0 (mj_p0 (mj_p0 (mj_p0 (mj_p0 (mj_p0 (mj_p0 M m 0 0) m 3 (n : Int)) m 2 0) m 4 0) m 5 200) m 15 0) m 53 0) m 54 0) m 55 0) m 56 1) m 57 0).2.2 m 6 = some s := m6
  have m8' : (mj_p0 (mj_p0 (mj_p0 (mj_p0 (mj_p0 (mj_p0 (mj_p0 (mj_p0 (mj_p0 (mj_p0 (mj_p0 M m 0 0) m 3 (n : Int)) m 2 0) m 4 0) m 5 200) m 15 0) m 53 0) m 54 0) m 55 0) m 56 1) m 57 0).2.2 m 8 = some rd := m8
  generalize (mj_p0 (mj_p0 (mj_p0 (mj_p0 (mj_p0 (mj_p0 (mj_p0 (mj_p0 (mj_p0 (mj_p0 (mj_p0 M m 0 0) m 3 (n : Int)) m 2 0) m 4 0) m 5 200) m 15 0) m 53 0) m 54 0) m 55 0) m 56 1) m 57 0) = Mb at *
  have tz : (T 0) = rv_T B n 200 0 := by rw [hT]
  refine w_cv (st := []) rfl gm rfl (Nat.le_of_ble_eq_true rfl) (fun kk h => h) (r_X12_next (d := d + 1) (B := B) (n := n) (lim := 200) (p := 0) gm gbt n1 hA.2.1.1 hA.2.2.2.2.1 hA.2.2.2.2.2.1 b4 hA.2.2.1 (fun M1 hM => ?_))
  obtain ⟨o1, o2, o3, -⟩ := id hM
  have oc : ∀ a, a ≠ m → M1.1 a = Mb.1 a := fun a ha => funext fun k => o1 a k (fun e => ha e.1)
  have om : ∀ k, ¬ k ∈ [4, 11, 12, 13, 14] → M1.1 m k = Mb.1 m k := fun k hk => o1 m k (fun e => hk e.2)
  have ol : ∀ a, a ≠ m → M1.2.1 a = Mb.2.1 a := fun a ha => funext fun k => o2 a k (fun e => ha e.1)
  have hH : sr_H Mb n m rd sk T [] ((1 : Nat) : Int) 0 0 0 [] M1 := by
    refine ⟨fun a a1 _ _ => oc a a1, o3, ol, fun k hk => om k (fun e => hk ?_), by rw [tz]; exact rv_tq_of (rv_T_w (Nat.zero_le n)).1 (rv_nx_T (Nat.zero_le n) hM), Nat.zero_le n, (om 53 (by decide)).trans b53, (om 54 (by decide)).trans b54, (om 55 (by decide)).trans b55, (om 56 (by decide)).trans b56, (om 57 (by decide)).trans b57, fun j hj => absurd hj (Nat.not_lt_zero j), trivial⟩
    simp only [List.mem_cons, List.not_mem_nil, or_false] at e ⊢
    omega
  have es : ∀ M2 : mj_M, (∀ a, a ≠ m → a ≠ rd → a ≠ sk → M2.1 a = Mb.1 a) → M2.1 s = M.1 s := fun M2 hm => (hm s sm (hn_ne gs grd (by decide)) (hn_ne gs gsk (by decide))).trans (eo s sm)
  refine w_ic ?_
  refine w_isn ?_
  show wz _ _ _ _ [some (.inr (.inr (some m))), some (.inl 1), none] _ _ _ _ _
  refine (sr_all hA (4 * n + 7)).2.2.2.1 1 [] 0 0 [] _ (Or.inl rfl) (by decide) (by decide) (by decide) (by decide) (by decide) (se_P.mono (fun f a hf M' F => hf M' ⟨es M' F.2.2, F.1⟩) (4 * n + 7) 3 1 _ _ _ _ _ (fun q o cs k => k) h) (fun q' o' cs' hk l1 l2 l3 l4 => ?_) M1 hH _ _
  intro X P0 cs2 hX hP e2 n13 n12 M2 h2
  obtain ⟨x1, x2, x3⟩ := sr_x1 hX
  obtain ⟨y1, y2⟩ := sr_p1 hP
  have l4 : cs'.length + 1 + 0 ≤ 0 + 2 * o' := l4
  have l2' : cs'.length = cs2.length + X.length + P0.length := by rw [e2, List.length_append, List.length_append, List.length_map, List.length_map]
  have e3 : cs2 ++ (X ++ P0).map se_cv = cs' := by rw [List.map_append, ← List.append_assoc]; exact e2.symm
  have h2' : sr_H Mb n m rd sk T ((X ++ P0) ++ []) ((1 : Nat) : Int) 1 q' o' cs2 M2 := by rw [List.append_assoc]; exact h2
  have hy : ∀ y ∈ X ++ P0, y = (11 : Int) ∨ y = 12 := fun y hy => (List.mem_append.mp hy).elim (fun z => Or.inl (x1 y z)) (y1 y)
  have lxp : (X ++ P0).length = X.length + P0.length := List.length_append
  have l0 : ([] : List Int).length = 0 := rfl
  refine ⟨fun e0 cb sb => ?_, fun e0 cb sb cb2 sb2 => ?_⟩
  · refine w_aln rfl ?_
    refine w_bp ?_
    refine w_cv (st := []) rfl gm rfl (Nat.le_of_ble_eq_true rfl) (fun kk h => h) ⟨Nat.le_of_ble_eq_true rfl, ?_⟩
    show wz (d + 2) mt_X12_joins.2.2.2.2.1 _ mt_X12_joins.2.2.2.2.1 [some (.inr (.inr (some m))), some (.inl 12)] [] _ _ _ _
    refine sr_joins (d := d + 1) hA (Or.inr rfl) (Or.inl rfl) (fun M3 h3 => ?_) (X ++ P0) cs2 M2 _ _ (fun y hy' => (hy y hy').imp id (fun e => ⟨e, rfl⟩)) e3 (by omega) (by omega) h2'
    obtain ⟨g1, g2, g3, g4, g5, g6, p1, p2, p3, p4, p5, p6, p7⟩ := id h3
    refine w_aln rfl ?_
    refine w_gi gm rfl (by decide) rfl p3 ?_
    refine w_ifle (fun _ => ?_) (fun c => absurd c (by decide))
    refine w_ic ?_
    refine w_isn ?_
    show wz _ _ _ _ [some (.inr (.inr (some m))), some (.inl 0), none] _ _ _ _ _
    refine w_goto ?_
    refine w_iln rfl ?_
    refine w_ifeq (fun _ => ?_) (fun c => absurd rfl c)
    refine w_aln rfl ?_
    refine w_gr gm rfl (by decide) rfl (by rw [g2]; exact m6') ?_
    refine w_sp ?_
    refine w_aln rfl ?_
    refine w_gi gm rfl (by decide) rfl p1 ?_
    refine w_iast gs rfl (by decide) (by decide) (by decide) ?_
    refine w_ic ?_
    refine w_isn ?_
    show wz _ _ _ _ [some (.inr (.inr (some m))), some (.inl 0), some (.inl ((0 : Nat) : Int))] _ _ _ _ _
    have msn : m ≠ s := sm.symm
    refine sq_cp (L := cs'.length) (Mc := mj_p0 M3 s 356 (cs'.length : Int)) gm gs grd (by show M3.2.2 m 6 = _; rw [g2]; exact m6') (by show M3.2.2 m 8 = _; rw [g2]; exact m8') ((congrFun (wz_c msn) 53).trans p1) (by omega) (fun M' v1 v2 v3 v4 => ?_) (3 * cs'.length) 0 _ _ _ (by omega) rfl (fun _ _ => rfl) (fun j hj => absurd hj (Nat.not_lt_zero j)) (fun _ _ => rfl)
    have eo54 : (mj_p0 M3 s 356 (cs'.length : Int)).1 m 54 = (o' : Int) := (congrFun (wz_c msn) 54).trans p2
    rw [eo54]
    have er : (mj_p0 M3 s 356 (cs'.length : Int)).1 rd = M3.1 rd := wz_c (hn_ne grd gs (by decide))
    refine hk.1 e0 (by omega) l3 (by omega) M' ⟨⟨(v4 356 (by decide)).trans hn_s, fun j hj => ?_⟩, fun j hj => (v4 j (by omega)).trans ((hn_n (Or.inr (by omega))).trans (congrFun (es M3 g1) j)), (congrFun (v2 m msn) 15).trans ((congrFun (wz_c msn) 15).trans ((g4 15 (by decide)).trans b15))⟩
    obtain ⟨b1, b2, b3⟩ := p6 j hj
    refine ⟨(v3 (3 * j) (by omega)).trans ((congrFun er _).trans b1), ?_, ?_⟩
    · have q := (v3 (3 * j + 1) (by omega)).trans ((congrFun er _).trans b2)
      rw [show 357 + (3 * j + 1) = 358 + 3 * j by omega] at q
      exact q
    · have q := (v3 (3 * j + 2) (by omega)).trans ((congrFun er _).trans b3)
      rw [show 357 + (3 * j + 2) = 359 + 3 * j by omega] at q
      exact q
  · refine sr_bElse (d := d) (P := X ++ P0) (S := []) hA hy (Or.inl rfl) h2' n13 n12 (by omega) (by omega) ⟨by decide, by decide⟩ (fun S' M3 eS c41 s3 => by cases eS) (fun cF M3 F3 => ?_) cb sb
    refine w_ifne (fun c => absurd rfl c) (fun _ => ?_)
    refine w_goto ?_
    exact sr_tellF gm F3 (hk.2 e0 M3 ⟨es M3 F3.2.2, F3.1⟩) _ _ _
end UH
end
section
/-! ===== SENTENCES copied ===== -/
theorem w_aaldo {d : Nat} {full : List mj_E} {Q : mj_P} {rest : List mj_E} {L : mj_L} {st : List mj_V} {G : mj_G} {M : mj_M} {cb sb pc : Nat} {aux : List Nat} {im : Int} {j a t n : Nat} {i : Int} {o : Option Nat} (ha : G a = (t, n)) (ht : t % 1000 = 100 + j) (h0 : 0 ≤ i) (h1 : i < n) (hv : M.2.2 a i.toNat = o) (kk : wz d full Q rest L (.inr (.inr o) :: st) G M cb sb) : wz d full Q ((.aaload, pc, j :: aux, im) :: rest) L (.inl i :: .inr (.inr (some a)) :: st) G M cb sb := wz_st ⟨t, n, ha, ht, h0, h1, fun b hb => by
  have e := hv.symm.trans hb
  rw [e] at kk; exact kk, fun hb => by
  have e := hv.symm.trans hb
  rw [e] at kk; exact kk⟩
theorem w_aasto {d : Nat} {full : List mj_E} {Q : mj_P} {rest : List mj_E} {L : mj_L} {st : List mj_V} {G : mj_G} {M : mj_M} {cb sb pc : Nat} {aux : List Nat} {im : Int} {a t n : Nat} {r : Option Nat} {i : Int} (ha : G a = (t, n)) (ht : t % 1000 = 105) (h9 : t < 900000) (h0 : 0 ≤ i) (h1 : i < n) (hr : r = none ∨ ∃ b, r = some b ∧ (G b).1 % 1000 = 50) (kk : wz d full Q rest L st G (mj_p2 M a i.toNat r) cb sb) : wz d full Q ((.aastore, pc, 5 :: aux, im) :: rest) L (.inr (.inr r) :: .inl i :: .inr (.inr (some a)) :: st) G M cb sb := wz_st ⟨t, n, ha, ht, h9, h0, h1, fun b' hb => Or.inr ⟨rfl, (G b').1, (G b').2, rfl, by
  rcases hr with e | ⟨b, e, hb2⟩
  · rw [e] at hb; cases hb
  · have e2 := Option.some.inj (e.symm.trans hb)
    rw [← e2]; exact hb2, trivial⟩, kk⟩
/-- se is told as se2 is -/
def se_cp (se st sg nu se2 st2 sg2 nu2 : Nat) (M M' : mj_M) : Prop := M'.2.1 = M.2.1 ∧ (∀ a, a ≠ se → a ≠ sg → a ≠ nu → M'.1 a = M.1 a) ∧ (∀ a, a ≠ st → M'.2.2 a = M.2.2 a) ∧ (∀ j, j < 40 → M'.2.2 st j = M.2.2 st2 j ∧ M'.1 sg j = M.1 sg2 j ∧ M'.1 nu j = M.1 nu2 j) ∧ M'.1 se 4 = M.1 se2 4 ∧ M'.1 se 5 = M.1 se2 5
section UI
variable {G : mj_G} {M M' : mj_M} {se st sg nu se2 st2 sg2 nu2 : Nat} {Q : mj_P} {d : Nat}
theorem se_cpL (hI : ab_Inv G M) (hD : se_D G M se st sg nu) (hD2 : se_D G M se2 st2 sg2 nu2) (n0 : se ≠ se2) (n1 : st ≠ st2) (n2 : sg ≠ sg2) (n3 : nu ≠ nu2) (hQ : ∀ M', se_cp se st sg nu se2 st2 sg2 nu2 M M' → Q none G M') : ∀ (k i : Nat) (M1 : mj_M) (cb sb : Nat), i + k = 40 → M1.2.1 = M.2.1 → (∀ a, a ≠ sg → a ≠ nu → M1.1 a = M.1 a) → (∀ a, a ≠ st → M1.2.2 a = M.2.2 a) → (∀ j, j < i → M1.2.2 st j = M.2.2 st2 j ∧ M1.1 sg j = M.1 sg2 j ∧ M1.1 nu j = M.1 nu2 j) → wz d mt_X5_copy.2.2.2.2.1 Q (mt_X5_copy.2.2.2.2.1.drop 2) [some (.inr (.inr (some se))), some (.inr (.inr (some se2))), some (.inl (i : Int))] [] G M1 cb sb := by
  obtain ⟨g1, g2, g3, g4, e0, e1, e2⟩ := hD
  obtain ⟨k1, k2, k3, k4, f0, f1, f2⟩ := hD2
  have a1 : se ≠ st := hn_ne g1 g2 (by decide)
  have a2 : se2 ≠ st := hn_ne k1 g2 (by decide)
  have b1 : sg ≠ nu := hn_ne g3 g4 (by decide)
  have b2 : sg2 ≠ nu := hn_ne k3 g4 (by decide)
  have b3 : nu2 ≠ sg := hn_ne k4 g3 (by decide)
  have s1 : se ≠ sg := hn_ne g1 g3 (by decide)
  have s2 : se ≠ nu := hn_ne g1 g4 (by decide)
  have s3 : se2 ≠ sg := hn_ne k1 g3 (by decide)
  have s4 : se2 ≠ nu := hn_ne k1 g4 (by decide)
  intro k
  induction k with
  | zero =>
    intro i M1 cb sb e h1 h2 h3 h4
    refine w_iln rfl ?_
    refine w_bp ?_
    refine w_cmge (fun c => ?_) (fun c => by exfalso; omega)
    refine w_aln rfl ?_
    refine w_aln rfl ?_
    refine w_gi k1 rfl (by decide) rfl (congrFun (h2 se2 s3 s4) 4) ?_
    refine w_pi g1 rfl (by decide) rfl (fun q => by cases q) ?_
    refine w_aln rfl ?_
    refine w_aln rfl ?_
    refine w_gi k1 rfl (by decide) rfl ((hn_n (Or.inl n0.symm)).trans (congrFun (h2 se2 s3 s4) 5)) ?_
    refine w_pi g1 rfl (by decide) rfl (fun q => by cases q) ?_
    exact w_ret (hQ _ ⟨h1, fun a c1 c2 c3 => (wz_c c1).trans ((wz_c c1).trans (h2 a c2 c3)), h3, fun j hj => ⟨(h4 j (by omega)).1, (congrFun (wz_c s1.symm) j).trans ((congrFun (wz_c s1.symm) j).trans (h4 j (by omega)).2.1), (congrFun (wz_c s2.symm) j).trans ((congrFun (wz_c s2.symm) j).trans (h4 j (by omega)).2.2)⟩, (hn_n (Or.inr (by decide))).trans hn_s, hn_s⟩)
  | succ k ih =>
    intro i M1 cb sb e h1 h2 h3 h4
    refine w_iln rfl ?_
    refine w_bp ?_
    refine w_cmge (fun c => by exfalso; omega) (fun c => ?_)
    refine w_aln rfl ?_
    refine w_gr g1 rfl (by decide) rfl ((congrFun (h3 se a1) 0).trans e0) ?_
    refine w_iln rfl ?_
    refine w_aln rfl ?_
    refine w_gr k1 rfl (by decide) rfl ((congrFun (h3 se2 a2) 0).trans f0) ?_
    refine w_iln rfl ?_
    refine w_aaldo (o := M.2.2 st2 i) k2 rfl (by omega) (by show (i : Int) < ((40 : Nat) : Int); omega) (by rw [Int.toNat_natCast]; exact congrFun (h3 st2 n1.symm) i) ?_
    have hr : M.2.2 st2 i = none ∨ ∃ b, M.2.2 st2 i = some b ∧ (G b).1 % 1000 = 50 := by
      have q := hI.2.1 st2 i (0, 0) (by rw [k2]; rfl) (fun _ => by rw [k2]; show i < 40; omega)
      rcases q with ⟨-, q⟩ | ⟨q, -⟩ | ⟨q, -⟩ | ⟨q, -⟩
      · exact q
      · exact absurd q (by decide)
      · exact absurd q (by decide)
      · exact absurd rfl q
    refine w_aasto g2 rfl (by decide) (by omega) (by show (i : Int) < ((40 : Nat) : Int); omega) hr ?_
    rw [Int.toNat_natCast]
    refine w_aln rfl ?_
    refine w_gr g1 rfl (by decide) rfl ((wz_nr (Or.inl a1)).trans ((congrFun (h3 se a1) 1).trans e1)) ?_
    refine w_iln rfl ?_
    refine w_aln rfl ?_
    refine w_gr k1 rfl (by decide) rfl ((wz_nr (Or.inl a2)).trans ((congrFun (h3 se2 a2) 1).trans f1)) ?_
    refine w_iln rfl ?_
    refine w_iald (v := M.1 sg2 i) k3 rfl (by omega) (by show (i : Int) < ((40 : Nat) : Int); omega) (by rw [Int.toNat_natCast]; exact congrFun (h2 sg2 n2.symm b2) i) ?_
    refine w_iast g3 rfl (by decide) (by omega) (by show (i : Int) < ((40 : Nat) : Int); omega) ?_
    rw [Int.toNat_natCast]
    refine w_aln rfl ?_
    refine w_gr g1 rfl (by decide) rfl ((wz_nr (Or.inl a1)).trans ((congrFun (h3 se a1) 2).trans e2)) ?_
    refine w_iln rfl ?_
    refine w_aln rfl ?_
    refine w_gr k1 rfl (by decide) rfl ((wz_nr (Or.inl a2)).trans ((congrFun (h3 se2 a2) 2).trans f2)) ?_
    refine w_iln rfl ?_
    refine w_iald (v := M.1 nu2 i) k4 rfl (by omega) (by show (i : Int) < ((40 : Nat) : Int); omega) (by rw [Int.toNat_natCast]; exact (congrFun (wz_c b3) i).trans (congrFun (h2 nu2 b3 n3.symm) i)) ?_
    refine w_iast g4 rfl (by decide) (by omega) (by show (i : Int) < ((40 : Nat) : Int); omega) ?_
    rw [Int.toNat_natCast]
    refine w_ii rfl ⟨by omega, by omega⟩ ?_
    refine w_goto ?_
    refine ih (i + 1) _ _ _ (by omega) h1 (fun a c1 c2 => (wz_c c2).trans ((wz_c c1).trans (h2 a c1 c2))) (fun a c1 => (funext fun k => wz_nr (Or.inl c1)).trans (h3 a c1)) (fun j hj => ?_)
    by_cases c2 : j = i
    · rw [c2]
      exact ⟨wz_sr, (congrFun (wz_c b1) i).trans hn_s, hn_s⟩
    · obtain ⟨p1, p2, p3⟩ := h4 j (by omega)
      exact ⟨(wz_nr (Or.inr c2)).trans p1, (congrFun (wz_c b1) j).trans ((hn_n (Or.inr c2)).trans p2), (hn_n (Or.inr c2)).trans ((congrFun (wz_c b1.symm) j).trans p3)⟩
theorem r_X5_copy (hI : ab_Inv G M) (hD : se_D G M se st sg nu) (hD2 : se_D G M se2 st2 sg2 nu2) (n0 : se ≠ se2) (n1 : st ≠ st2) (n2 : sg ≠ sg2) (n3 : nu ≠ nu2) (hQ : ∀ M', se_cp se st sg nu se2 st2 sg2 nu2 M M' → Q none G M') : mj_R mj_tab (d + 1) 57 [.inr (.inr (some se)), .inr (.inr (some se2))] G M Q := by
  refine ⟨Nat.le_of_ble_eq_true rfl, ?_⟩
  show wz d mt_X5_copy.2.2.2.2.1 Q mt_X5_copy.2.2.2.2.1 [some (.inr (.inr (some se))), some (.inr (.inr (some se2))), none] [] G M _ _
  refine w_ic ?_
  refine w_isn ?_
  exact se_cpL hI hD hD2 n0 n1 n2 n3 hQ 40 0 M _ _ (by decide) rfl (fun _ _ _ => rfl) (fun _ _ => rfl) (fun j hj => absurd hj (Nat.not_lt_zero j))
end UI
/-- tags of SENTENCES' cells -/
def sd_tg (t : Nat) : Prop := t = 1006 ∨ t = 34105 ∨ t = 35100 ∨ t = 36100 ∨ t = 48102
def sd_al (G : mj_G) (M M' : mj_M) : Prop := ∀ a, (sd_tg (G a).1 → M'.1 a = M.1 a) ∧ ((sd_tg (G a).1 ∨ (G a).1 = 1007 ∨ (G a).1 = 1011) → M'.2.2 a = M.2.2 a)
abbrev sd_W (W : List (Nat × Nat × Nat)) : Prop := ∀ q ∈ W, (q.1 ≠ 1006 ∧ q.1 ≠ 34105 ∧ q.1 ≠ 35100 ∧ q.1 ≠ 36100 ∧ q.1 ≠ 48102) ∧ q.1 ≠ 1007 ∧ q.1 ≠ 1011
theorem sd_al.rf {G : mj_G} {M : mj_M} : sd_al G M M := fun _ => ⟨fun _ => rfl, fun _ => rfl⟩
theorem sd_al.tr {G : mj_G} {M M1 M2 : mj_M} (h : sd_al G M M1) (h2 : sd_al G M1 M2) : sd_al G M M2 := fun a => ⟨fun g => ((h2 a).1 g).trans ((h a).1 g), fun g => ((h2 a).2 g).trans ((h a).2 g)⟩
theorem sd_al.fr {G : mj_G} {M M' : mj_M} {W : List (Nat × Nat × Nat)} (f : ab_frm W G M M') (key : sd_W W) : sd_al G M M' := fun a => ⟨fun g => funext fun k => (f a k (by
    rintro ⟨q, hq, e, -⟩
    have c := key q hq
    unfold sd_tg at g
    omega)).1, fun g => funext fun k => (f a k (by
    rintro ⟨q, hq, e, -⟩
    have c := key q hq
    unfold sd_tg at g
    omega)).2⟩
theorem sd_al.c0 {G : mj_G} {M : mj_M} {a b t n k : Nat} (g : G b = (t, n)) (h : ¬ sd_tg t) : sd_al G M (mj_cp0 M a b 0 0 k) := fun x => ⟨fun gx => cp0_o (fun e => h (by rw [e, g] at gx; exact gx)), fun _ => rfl⟩
theorem sd_al.p0 {G : mj_G} {M : mj_M} {b t n k : Nat} {v : Int} (g : G b = (t, n)) (h : ¬ sd_tg t) : sd_al G M (mj_p0 M b k v) := fun x => ⟨fun gx => wz_c (fun e => h (by rw [e, g] at gx; exact gx)), fun _ => rfl⟩
def sd_E : List Nat := [56, 101, 273, 318]
def sd_i (k : Nat) : Nat := if k = 0 then 273 else 318
theorem sd_i_in (k : Nat) : sd_i k ∈ sd_E := by unfold sd_i; split <;> decide
def lq_SA (G : mj_G) (w : Nat → Nat) : Prop := ∀ E, E ∈ sd_E → G (w E) = (1006, 0) ∧ G (w (E + 1)) = (34105, 40) ∧ G (w (E + 2)) = (35100, 40) ∧ G (w (E + 3)) = (36100, 40)
def lq_SB (M : mj_M) (w : Nat → Nat) : Prop := (∀ E, E ∈ sd_E → M.2.2 (w E) 0 = some (w (E + 1)) ∧ M.2.2 (w E) 1 = some (w (E + 2)) ∧ M.2.2 (w E) 2 = some (w (E + 3))) ∧ ∀ k, k < 2 → M.2.2 (w (lq_sk k)) 2 = some (w (sd_i k))
def lq_SN (M : mj_M) (w : Nat → Nat) (e e2 : Nat) : Prop := M.2.2 (w 29) 2 = some (w e) ∧ M.2.2 (w 74) 2 = some (w e2) ∧ ((e = 56 ∧ e2 = 101) ∨ (e = 101 ∧ e2 = 56))
/-- the SENTENCE at E is told as that at X is -/
abbrev sd_cp (w : Nat → Nat) (E X : Nat) (M M' : mj_M) : Prop := se_cp (w E) (w (E + 1)) (w (E + 2)) (w (E + 3)) (w X) (w (X + 1)) (w (X + 2)) (w (X + 3)) M M'
theorem sd_E4 {E : Nat} (h : E ∈ sd_E) : E = 56 ∨ E = 101 ∨ E = 273 ∨ E = 318 := by
  simp only [sd_E, List.mem_cons, List.not_mem_nil, or_false] at h
  exact h
theorem lq_SN.in1 {M : mj_M} {w : Nat → Nat} {e e2 : Nat} (h : lq_SN M w e e2) : e ∈ sd_E ∧ e2 ∈ sd_E ∧ e ≠ e2 ∧ (∀ k, sd_i k ≠ e) ∧ ∀ k, sd_i k ≠ e2 := by
  rcases h.2.2 with ⟨rfl, rfl⟩ | ⟨rfl, rfl⟩ <;> refine ⟨by decide, by decide, by decide, fun k => ?_, fun k => ?_⟩ <;> unfold sd_i <;> split <;> decide
theorem lq_SD {G : mj_G} {M : mj_M} {w : Nat → Nat} {E : Nat} (gA : lq_SA G w) (gB : ∀ E, E ∈ sd_E → M.2.2 (w E) 0 = some (w (E + 1)) ∧ M.2.2 (w E) 1 = some (w (E + 2)) ∧ M.2.2 (w E) 2 = some (w (E + 3))) (h : E ∈ sd_E) : se_D G M (w E) (w (E + 1)) (w (E + 2)) (w (E + 3)) := ⟨(gA E h).1, (gA E h).2.1, (gA E h).2.2.1, (gA E h).2.2.2, (gB E h).1, (gB E h).2.1, (gB E h).2.2⟩
theorem sd_w {G : mj_G} {w : Nat → Nat} (hA : lq_A G w) {E X i j : Nat} (hE : E ∈ sd_E) (hX : X ∈ sd_E) (hi : i < 4) (hj : j < 4) (h : E ≠ X ∨ i ≠ j) : w (E + i) ≠ w (X + j) := fun e => by
  have h1 := sd_E4 hE
  have h2 := sd_E4 hX
  have := hA.1 _ _ (by omega) (by omega) e
  omega
theorem r_X6_copyS {G : mj_G} {M : mj_M} {w : Nat → Nat} {st st' E X : Nat} {Q : mj_P} (hI : ab_Inv G M) (gs : G st = (1007, 0)) (gs' : G st' = (1007, 0)) (hA : lq_A G w) (gA : lq_SA G w) (rB : ∀ E, E ∈ sd_E → M.2.2 (w E) 0 = some (w (E + 1)) ∧ M.2.2 (w E) 1 = some (w (E + 2)) ∧ M.2.2 (w E) 2 = some (w (E + 3))) (hE : E ∈ sd_E) (hX : X ∈ sd_E) (nXE : E ≠ X) (e1 : M.2.2 st 2 = some (w X)) (e1' : M.2.2 st' 2 = some (w E)) (hQ : ∀ M1 M2 M3, sd_al G M M1 → sd_cp w E X M1 M2 → sd_al G M2 M3 → Q none G M3) : mj_R mj_tab 39 67 [.inr (.inr (some st')), .inr (.inr (some st))] G M Q := by
  obtain ⟨pl, s0, gpl⟩ := hn_rf (k := 0) (q := (1004, 0)) hI gs rfl (by decide) (by decide) (by decide) (fun e => absurd e (by decide))
  obtain ⟨pl', s0', gpl'⟩ := hn_rf (k := 0) (q := (1004, 0)) hI gs' rfl (by decide) (by decide) (by decide) (fun e => absurd e (by decide))
  obtain ⟨dl, d1, gdl⟩ := hn_rf (k := 1) (q := (1002, 0)) hI gs rfl (by decide) (by decide) (by decide) (fun e => absurd e (by decide))
  obtain ⟨dl', d1', gdl'⟩ := hn_rf (k := 1) (q := (1002, 0)) hI gs' rfl (by decide) (by decide) (by decide) (fun e => absurd e (by decide))
  refine ⟨Nat.le_of_ble_eq_true rfl, ?_⟩
  show wz 38 mt_X6_copy.2.2.2.2.1 Q mt_X6_copy.2.2.2.2.1 [some (.inr (.inr (some st'))), some (.inr (.inr (some st)))] [] G M _ _
  refine w_aln rfl ?_
  refine w_gr gs' rfl (by decide) rfl s0' ?_
  refine w_aln rfl ?_
  refine w_gr gs rfl (by decide) rfl s0 ?_
  refine w_cv (st := []) rfl gpl' rfl (Nat.le_of_ble_eq_true rfl) (fun kk h => h) (lw_cc (c := cd_30) (dd := 37) (ab_all_ok 223 (Nat.le_refl _) 33 (by decide)) rfl (by decide +kernel) gpl' gpl (by decide) (by decide) (by decide) (by decide) (by decide) (by decide) (by decide +kernel) hI (fun M1 I1 f1 => ?_))
  have a1 := sd_al.fr f1 (by decide +kernel)
  have r7 : ∀ {a k b : Nat}, G a = (1007, 0) → M.2.2 a k = some b → M1.2.2 a k = some b := fun g e => (congrFun ((a1 _).2 (Or.inr (Or.inl (by rw [g])))) _).trans e
  obtain ⟨fa, f0, gfa⟩ := hn_rf (k := 0) (q := (16100, 12)) I1 gdl rfl (by decide) (by decide) (by decide) (fun e => absurd e (by decide))
  obtain ⟨sa, f1, gsa⟩ := hn_rf (k := 1) (q := (17100, 12)) I1 gdl rfl (by decide) (by decide) (by decide) (fun e => absurd e (by decide))
  obtain ⟨ca, f2, gca⟩ := hn_rf (k := 2) (q := (18100, 12)) I1 gdl rfl (by decide) (by decide) (by decide) (fun e => absurd e (by decide))
  obtain ⟨fa', f0', gfa'⟩ := hn_rf (k := 0) (q := (16100, 12)) I1 gdl' rfl (by decide) (by decide) (by decide) (fun e => absurd e (by decide))
  obtain ⟨sa', f1', gsa'⟩ := hn_rf (k := 1) (q := (17100, 12)) I1 gdl' rfl (by decide) (by decide) (by decide) (fun e => absurd e (by decide))
  obtain ⟨ca', f2', gca'⟩ := hn_rf (k := 2) (q := (18100, 12)) I1 gdl' rfl (by decide) (by decide) (by decide) (fun e => absurd e (by decide))
  refine w_aln rfl ?_
  refine w_gr gs' rfl (by decide) rfl (r7 gs' d1') ?_
  refine w_aln rfl ?_
  refine w_gr gs rfl (by decide) rfl (r7 gs d1) ?_
  refine w_cv (st := []) rfl gdl' rfl (Nat.le_of_ble_eq_true rfl) (fun kk h => h) ⟨Nat.le_of_ble_eq_true rfl, ?_⟩
  show wz 37 mt_X1_copy.2.2.2.2.1 _ mt_X1_copy.2.2.2.2.1 [some (.inr (.inr (some dl'))), some (.inr (.inr (some dl)))] [] _ _ _ _
  refine w_aln rfl ?_
  refine w_gr gdl rfl (by decide) rfl f0 ?_
  refine w_ic ?_
  refine w_aln rfl ?_
  refine w_gr gdl' rfl (by decide) rfl f0' ?_
  refine w_ic ?_
  refine w_bp ?_
  refine w_cp0 gfa rfl gfa' rfl (by decide) (by decide) (by decide) (by decide) (by decide) (by decide) (Nat.zero_le 8) ?_
  refine w_aln rfl ?_
  refine w_gr gdl rfl (by decide) rfl f1 ?_
  refine w_ic ?_
  refine w_aln rfl ?_
  refine w_gr gdl' rfl (by decide) rfl f1' ?_
  refine w_ic ?_
  refine w_bp ?_
  refine w_cp0 gsa rfl gsa' rfl (by decide) (by decide) (by decide) (by decide) (by decide) (by decide) (Nat.zero_le 8) ?_
  refine w_aln rfl ?_
  refine w_gr gdl rfl (by decide) rfl f2 ?_
  refine w_ic ?_
  refine w_aln rfl ?_
  refine w_gr gdl' rfl (by decide) rfl f2' ?_
  refine w_ic ?_
  refine w_bp ?_
  refine w_cp0 gca rfl gca' rfl (by decide) (by decide) (by decide) (by decide) (by decide) (by decide) (Nat.zero_le 8) ?_
  refine w_aln rfl ?_
  refine w_aln rfl ?_
  refine w_gi gdl rfl (by decide) rfl rfl ?_
  refine w_pi gdl' rfl (by decide) rfl (fun q => by cases q) ?_
  refine w_ret ?_
  have I2 : ab_Inv G (mj_cp0 (mj_cp0 (mj_cp0 M1 fa fa' 0 0 12) sa sa' 0 0 12) ca ca' 0 0 12) := hn_cp (hn_cp (hn_cp I1 gfa gfa') gsa gsa') gca gca'
  have I3 : ab_Inv G (mj_p0 (mj_cp0 (mj_cp0 (mj_cp0 M1 fa fa' 0 0 12) sa sa' 0 0 12) ca ca' 0 0 12) dl' 3 ((mj_cp0 (mj_cp0 (mj_cp0 M1 fa fa' 0 0 12) sa sa' 0 0 12) ca ca' 0 0 12).1 dl 3)) := I2.p0 (by
    have h3 := I2.1 dl 3
    rw [gdl] at h3
    rw [gdl']
    exact h3)
  have nt : ¬ sd_tg 16100 ∧ ¬ sd_tg 17100 ∧ ¬ sd_tg 18100 ∧ ¬ sd_tg 1002 := by unfold sd_tg; decide
  have a2 : sd_al G M1 (mj_p0 (mj_cp0 (mj_cp0 (mj_cp0 M1 fa fa' 0 0 12) sa sa' 0 0 12) ca ca' 0 0 12) dl' 3 ((mj_cp0 (mj_cp0 (mj_cp0 M1 fa fa' 0 0 12) sa sa' 0 0 12) ca ca' 0 0 12).1 dl 3)) := (((sd_al.c0 gfa' nt.1).tr (sd_al.c0 gsa' nt.2.1)).tr (sd_al.c0 gca' nt.2.2.1)).tr (sd_al.p0 gdl' nt.2.2.2)
  show wz 38 mt_X6_copy.2.2.2.2.1 Q (mt_X6_copy.2.2.2.2.1.drop 10) [some (.inr (.inr (some st'))), some (.inr (.inr (some st)))] [] G (mj_p0 (mj_cp0 (mj_cp0 (mj_cp0 M1 fa fa' 0 0 12) sa sa' 0 0 12) ca ca' 0 0 12) dl' 3 ((mj_cp0 (mj_cp0 (mj_cp0 M1 fa fa' 0 0 12) sa sa' 0 0 12) ca ca' 0 0 12).1 dl 3)) _ _
  revert I3 a2
  generalize mj_p0 (mj_cp0 (mj_cp0 (mj_cp0 M1 fa fa' 0 0 12) sa sa' 0 0 12) ca ca' 0 0 12) dl' 3 ((mj_cp0 (mj_cp0 (mj_cp0 M1 fa fa' 0 0 12) sa sa' 0 0 12) ca ca' 0 0 12).1 dl 3) = M2
  intro I3 a2
  have a3 := a1.tr a2
  have r8 : ∀ {a k b : Nat}, G a = (1007, 0) → M.2.2 a k = some b → M2.2.2 a k = some b := fun g e => (congrFun ((a3 _).2 (Or.inr (Or.inl (by rw [g])))) _).trans e
  obtain ⟨ye, y1, gye⟩ := hn_rf (k := 3) (q := (1010, 0)) hI gs rfl (by decide) (by decide) (by decide) (fun e => absurd e (by decide))
  obtain ⟨ye', y1', gye'⟩ := hn_rf (k := 3) (q := (1010, 0)) hI gs' rfl (by decide) (by decide) (by decide) (fun e => absurd e (by decide))
  have r9 : ∀ {a k b : Nat}, sd_tg (G a).1 → M.2.2 a k = some b → M2.2.2 a k = some b := fun g e => (congrFun ((a3 _).2 (Or.inl g)) _).trans e
  have rB2 : ∀ E, E ∈ sd_E → M2.2.2 (w E) 0 = some (w (E + 1)) ∧ M2.2.2 (w E) 1 = some (w (E + 2)) ∧ M2.2.2 (w E) 2 = some (w (E + 3)) := fun E hE => by
    obtain ⟨b1, b2, b3⟩ := rB E hE
    have tg : sd_tg (G (w E)).1 := by rw [(gA E hE).1]; exact Or.inl rfl
    exact ⟨r9 tg b1, r9 tg b2, r9 tg b3⟩
  refine w_aln rfl ?_
  refine w_gr gs' rfl (by decide) rfl (r8 gs' e1') ?_
  refine w_aln rfl ?_
  refine w_gr gs rfl (by decide) rfl (r8 gs e1) ?_
  have gse' := (gA E hE).1
  have gse := (gA X hX).1
  refine w_cv (st := []) rfl gse' rfl (Nat.le_of_ble_eq_true rfl) (fun kk h => h) (sn_and (R := fun r G' M' => r = none ∧ G' = G ∧ ab_Inv G M' ∧ ab_frm (ab_w cd_33) G M2 M') (R' := fun r G' M' => r = none ∧ G' = G ∧ sd_cp w E X M2 M') (by decide +kernel) (lw_cc (c := cd_33) (dd := 37) (ab_all_ok 223 (Nat.le_refl _) 36 (by decide)) rfl (by decide +kernel) gse' gse (by decide) (by decide) (by decide) (by decide) (by decide) (by decide) (by decide +kernel) I3 (fun M3 I4 f4 => ⟨rfl, rfl, I4, f4⟩)) (r_X5_copy (d := 37) I3 (lq_SD gA rB2 hE) (lq_SD gA rB2 hX) (sd_w (i := 0) (j := 0) hA hE hX (by decide) (by decide) (Or.inl nXE)) (sd_w hA hE hX (by decide) (by decide) (Or.inl nXE)) (sd_w hA hE hX (by decide) (by decide) (Or.inl nXE)) (sd_w hA hE hX (by decide) (by decide) (Or.inl nXE)) (fun M3 hc => ⟨rfl, rfl, hc⟩)) (fun r G' M3 p1 p2 => ?_))
  obtain ⟨rfl, rfl, I4, f4⟩ := p1
  obtain ⟨-, -, hc⟩ := p2
  have r7' : ∀ {a k b : Nat}, G' a = (1007, 0) → M.2.2 a k = some b → M3.2.2 a k = some b := fun g e => (congrFun (hc.2.2.1 _ (hn_ne g (gA E hE).2.1 (by decide))) _).trans (r8 g e)
  refine w_aln rfl ?_
  refine w_gr gs' rfl (by decide) rfl (r7' gs' y1') ?_
  refine w_aln rfl ?_
  refine w_gr gs rfl (by decide) rfl (r7' gs y1) ?_
  refine w_cv (st := []) rfl gye' rfl (Nat.le_of_ble_eq_true rfl) (fun kk h => h) (lw_cc (c := cd_6) (dd := 37) (ab_all_ok 223 (Nat.le_refl _) 6 (by decide)) rfl (by decide +kernel) gye' gye (by decide) (by decide) (by decide) (by decide) (by decide) (by decide) (by decide +kernel) I4 (fun M4 I5 f5 => ?_))
  exact w_ret (hQ M2 M3 M4 a3 hc (sd_al.fr f5 (by decide +kernel)))
section SIM
variable {G : mj_G} {M : mj_M} {w : Nat → Nat} {x p q kc e0 e2 : Nat} {z1 : Int} {Q : mj_P}
theorem lq_imS (hA : lq_A G w) (hB : lq_B M w x) (wB : lq_SB M w) (k : Nat) (hk : k < 2) : ∃ st, M.2.2 (w 119) k = some st ∧ G st = (1007, 0) ∧ M.2.2 st 2 = some (w (sd_i k)) := by
  have h3 := wB.2 k hk
  have : k = 0 ∨ k = 1 := by omega
  rcases this with rfl | rfl
  · exact ⟨w 246, hB.2.2.2.2.1, hA.2.2.2.2.1, h3⟩
  · exact ⟨w 291, hB.2.2.2.2.2.1, hA.2.2.2.2.2.1, h3⟩
/-- image, as far as SENTENCES go -/
theorem r_X11_imageS (hI : ab_Inv G M) (gx : G x = (1011, 0)) (hA : lq_A G w) (hB : lq_B M w x) (gA : lq_SA G w) (wB : lq_SB M w) (wN : lq_SN M w e0 e2) (x4 : M.2.2 x 4 = some kc) (gkc : G kc = (48102, 2)) (h0 : ¬ (0 ≤ z1 ∧ z1 ≤ 1) → Q (some (.inl 0)) G M) (h1 : ∀ k : Nat, k < 2 → z1 = (k : Int) → ∀ M1 M2 M3, sd_al G M M1 → sd_cp w (sd_i k) e0 M1 M2 → sd_al G M2 M3 → Q (some (.inl 1)) G (mj_p0 M3 kc k 1)) : mj_R mj_tab 40 127 [.inr (.inr (some x)), .inl z1] G M Q := by
  have g119 := hA.2.2.2.2.2.2
  refine ⟨Nat.le_of_ble_eq_true rfl, ?_⟩
  show wz 39 mt_X11_image.2.2.2.2.1 Q mt_X11_image.2.2.2.2.1 [some (.inr (.inr (some x))), some (.inl z1)] [] G M _ _
  refine w_iln rfl ?_
  refine w_iflt (fun c => ?_) (fun c => ?_)
  · refine w_ic ?_
    exact w_iret (fun _ => Or.inl rfl) (h0 (by omega))
  · refine w_iln rfl ?_
    refine w_ic ?_
    refine w_cmlt (fun c2 => ?_) (fun c2 => ?_)
    · obtain ⟨k, hk, ek⟩ : ∃ k : Nat, k < 2 ∧ z1 = (k : Int) := ⟨z1.toNat, by omega, by omega⟩
      subst ek
      obtain ⟨st, s1, gst, s3⟩ := lq_imS hA hB wB k hk
      have tk : ((k : Int)).toNat = k := by omega
      refine w_aln rfl ?_
      refine w_gr gx rfl (by decide) rfl hB.2.2.2.1 ?_
      refine w_iln rfl ?_
      refine w_aald (b := st) g119 rfl (by omega) (by show (k : Int) < ((2 : Nat) : Int); omega) (by rw [tk]; exact s1) ?_
      refine w_aln rfl ?_
      refine w_gr gx rfl (by decide) rfl hB.2.1 ?_
      refine w_cv (st := []) rfl gst rfl (Nat.le_of_ble_eq_true rfl) (fun kk h => h) (r_X6_copyS hI hA.2.2.1 gst hA gA wB.1 (sd_i_in k) wN.in1.1 (wN.in1.2.2.2.1 k) wN.1 s3 (fun M1 M2 M3 al hc al2 => ?_))
      refine w_aln rfl ?_
      refine w_gr gx rfl (by decide) rfl ((congrFun ((al2 x).2 (Or.inr (Or.inr (by rw [gx])))) 4).trans ((congrFun (hc.2.2.1 x (hn_ne gx (gA _ (sd_i_in k)).2.1 (by decide))) 4).trans ((congrFun ((al x).2 (Or.inr (Or.inr (by rw [gx])))) 4).trans x4))) ?_
      refine w_iln rfl ?_
      refine w_ic ?_
      refine w_zast (Or.inr rfl) gkc rfl (by decide) (by omega) (by show (k : Int) < ((2 : Nat) : Int); omega) ?_
      refine w_ic ?_
      refine w_iret (fun _ => Or.inr rfl) ?_
      rw [tk]
      exact h1 k hk rfl M1 M2 M3 al hc al2
    · refine w_ic ?_
      exact w_iret (fun _ => Or.inl rfl) (h0 (by omega))
/-- restore, as far as SENTENCES go -/
theorem r_X11_restoreS {ud : Nat} (hI : ab_Inv G M) (gx : G x = (1011, 0)) (hA : lq_A G w) (hB : lq_B M w x) (gA : lq_SA G w) (wB : lq_SB M w) (wN : lq_SN M w e0 e2) (x4 : M.2.2 x 4 = some kc) (gkc : G kc = (48102, 2)) (x5 : M.2.2 x 5 = some ud) (gud : G ud = (1009, 0)) (h0 : (¬ (0 ≤ z1 ∧ z1 ≤ 1) ∨ ∃ k : Nat, k < 2 ∧ z1 = (k : Int) ∧ M.1 kc k = 0) → Q (some (.inl 0)) G M) (h1 : ∀ k : Nat, k < 2 → z1 = (k : Int) → M.1 kc k ≠ 0 → ∀ M1 M2 M3, sd_al G M M1 → sd_cp w e0 (sd_i k) M1 M2 → sd_al G M2 M3 → Q (some (.inl 1)) G (mj_p0 M3 ud 3 0)) : mj_R mj_tab 40 144 [.inr (.inr (some x)), .inl z1] G M Q := by
  have g119 := hA.2.2.2.2.2.2
  refine ⟨Nat.le_of_ble_eq_true rfl, ?_⟩
  show wz 39 mt_X11_restore.2.2.2.2.1 Q mt_X11_restore.2.2.2.2.1 [some (.inr (.inr (some x))), some (.inl z1)] [] G M _ _
  refine w_iln rfl ?_
  refine w_iflt (fun c => ?_) (fun c => ?_)
  · refine w_ic ?_
    exact w_iret (fun _ => Or.inl rfl) (h0 (Or.inl (by omega)))
  · refine w_iln rfl ?_
    refine w_ic ?_
    refine w_cmge (fun c2 => ?_) (fun c2 => ?_)
    · refine w_ic ?_
      exact w_iret (fun _ => Or.inl rfl) (h0 (Or.inl (by omega)))
    · obtain ⟨k, hk, ek⟩ : ∃ k : Nat, k < 2 ∧ z1 = (k : Int) := ⟨z1.toNat, by omega, by omega⟩
      subst ek
      obtain ⟨st, s1, gst, s3⟩ := lq_imS hA hB wB k hk
      have tk : ((k : Int)).toNat = k := by omega
      refine w_aln rfl ?_
      refine w_gr gx rfl (by decide) rfl x4 ?_
      refine w_iln rfl ?_
      refine w_zald (v := M.1 kc k) gkc rfl (by omega) (by show (k : Int) < ((2 : Nat) : Int); omega) (by rw [tk]) ?_
      refine w_ifne (fun c3 => ?_) (fun c3 => ?_)
      · refine w_aln rfl ?_
        refine w_gr gx rfl (by decide) rfl hB.2.1 ?_
        refine w_aln rfl ?_
        refine w_gr gx rfl (by decide) rfl hB.2.2.2.1 ?_
        refine w_iln rfl ?_
        refine w_aald (b := st) g119 rfl (by omega) (by show (k : Int) < ((2 : Nat) : Int); omega) (by rw [tk]; exact s1) ?_
        refine w_cv (st := []) rfl hA.2.2.1 rfl (Nat.le_of_ble_eq_true rfl) (fun kk h => h) (r_X6_copyS hI gst hA.2.2.1 hA gA wB.1 wN.in1.1 (sd_i_in k) (fun e => wN.in1.2.2.2.1 k e.symm) s3 wN.1 (fun M1 M2 M3 al hc al2 => ?_))
        refine w_aln rfl ?_
        refine w_gr gx rfl (by decide) rfl ((congrFun ((al2 x).2 (Or.inr (Or.inr (by rw [gx])))) 5).trans ((congrFun (hc.2.2.1 x (hn_ne gx (gA _ wN.in1.1).2.1 (by decide))) 5).trans ((congrFun ((al x).2 (Or.inr (Or.inr (by rw [gx])))) 5).trans x5))) ?_
        refine w_ic ?_
        refine w_pi gud rfl (by decide) rfl (fun q => by cases q) ?_
        refine w_ic ?_
        exact w_iret (fun _ => Or.inr rfl) (h1 k hk rfl c3 M1 M2 M3 al hc al2)
      · refine w_ic ?_
        exact w_iret (fun _ => Or.inl rfl) (h0 (Or.inr ⟨k, hk, rfl, c3⟩))
end SIM
end
section
/-! ===== SENTENCES now and of the images, alike on both sides ===== -/
/-- how high the values stand behind codes -/
def se_hg : (List (Nat × Int × Int)) → Nat → Option Nat
  | [], h => some h
  | c :: t, h => if c.1 < 14 then (if 2 ≤ h then se_hg t (h - 1) else none) else if c.1 = 14 then (if 1 ≤ h then se_hg t h else none) else se_hg t (h + 1)
theorem se_hg_app : ∀ (X Y : (List (Nat × Int × Int))) (h h2 : Nat), se_hg X h = some h2 → se_hg (X ++ Y) h = se_hg Y h2
  | [], Y, h, h2, e => by rw [Option.some.inj e]; rfl
  | c :: X, Y, h, h2, e => by
    have e : (if c.1 < 14 then (if 2 ≤ h then se_hg X (h - 1) else none) else if c.1 = 14 then (if 1 ≤ h then se_hg X h else none) else se_hg X (h + 1)) = some h2 := e
    show (if c.1 < 14 then (if 2 ≤ h then se_hg (X ++ Y) (h - 1) else none) else if c.1 = 14 then (if 1 ≤ h then se_hg (X ++ Y) h else none) else se_hg (X ++ Y) (h + 1)) = _
    by_cases c1 : c.1 < 14
    · rw [if_pos c1] at e ⊢
      by_cases c2 : 2 ≤ h
      · rw [if_pos c2] at e ⊢; exact se_hg_app X Y _ _ e
      · rw [if_neg c2] at e; cases e
    · rw [if_neg c1] at e ⊢
      by_cases c3 : c.1 = 14
      · rw [if_pos c3] at e ⊢
        by_cases c2 : 1 ≤ h
        · rw [if_pos c2] at e ⊢; exact se_hg_app X Y _ _ e
        · rw [if_neg c2] at e; cases e
      · rw [if_neg c3] at e ⊢; exact se_hg_app X Y _ _ e
def se_gw (X : (List (Nat × Int × Int))) : Prop := ∀ c ∈ X, 12 ≤ c.1 ∧ c.1 < 24
/-- codes that bring one value more; that bring none more, one being there -/
def se_g1 (X : (List (Nat × Int × Int))) : Prop := se_gw X ∧ ∀ h, se_hg X h = some (h + 1)
def se_g0 (X : (List (Nat × Int × Int))) : Prop := se_gw X ∧ ∀ h, se_hg X (h + 1) = some (h + 1)
theorem se_gw.app {X Y : (List (Nat × Int × Int))} (h1 : se_gw X) (h2 : se_gw Y) : se_gw (X ++ Y) := fun c hc => (List.mem_append.mp hc).elim (h1 c) (h2 c)
theorem se_gw.one {w : Nat} {z v : Int} (h1 : 12 ≤ w) (h2 : w < 24) : se_gw [(w, z, v)] := fun c hc => by rw [List.mem_singleton.mp hc]; exact ⟨h1, h2⟩
theorem se_g0.nil : se_g0 [] := ⟨(fun c hc => by cases hc), fun _ => rfl⟩
theorem se_g1.leaf {w : Nat} {z v : Int} (h1 : 15 ≤ w) (h2 : w < 24) : se_g1 [(w, z, v)] := ⟨se_gw.one (by omega) h2, fun h => by
  show (if w < 14 then _ else if w = 14 then _ else _) = _
  rw [if_neg (by omega), if_neg (by omega)]; rfl⟩
theorem se_g1.not {X : (List (Nat × Int × Int))} (h : se_g1 X) : se_g1 (X ++ [(14, 0, 0)]) := ⟨h.1.app (se_gw.one (by decide) (by decide)), fun k => by
  rw [se_hg_app X _ k _ (h.2 k)]
  show (if 14 < 14 then _ else if 14 = 14 then (if 1 ≤ k + 1 then _ else none) else _) = _
  rw [if_neg (by decide), if_pos rfl, if_pos (by omega)]; rfl⟩
theorem se_g1.app {X Y : (List (Nat × Int × Int))} (h : se_g1 X) (h2 : se_g0 Y) : se_g1 (X ++ Y) := ⟨h.1.app h2.1, fun k => by rw [se_hg_app X _ k _ (h.2 k)]; exact h2.2 k⟩
theorem se_g1.join {X Y : (List (Nat × Int × Int))} {w : Nat} (h : se_g1 X) (h2 : se_g0 Y) (w1 : 12 ≤ w) (w2 : w < 14) : se_g0 ((X ++ [(w, 0, 0)]) ++ Y) := ⟨(h.1.app (se_gw.one w1 (by omega))).app h2.1, fun k => by
  have e : se_hg (X ++ [(w, 0, 0)]) (k + 1) = some (k + 1) := by
    rw [se_hg_app X _ (k + 1) _ (h.2 (k + 1))]
    show (if w < 14 then (if 2 ≤ k + 1 + 1 then _ else none) else _) = _
    rw [if_pos w2, if_pos (by omega)]; rfl
  rw [se_hg_app _ Y _ _ e]; exact h2.2 k⟩
def se_gm (mo : Nat) (X : (List (Nat × Int × Int))) : Prop := (mo = 1 ∨ 4 ≤ mo → se_g0 X) ∧ (¬ (mo = 1 ∨ 4 ≤ mo) → se_g1 X)
/-- what is told is in order -/
theorem se_P.ok {T : Nat → (Nat × Nat × Int × List Int × Nat)} {Kf : Int → Nat → Prop} : ∀ (N mo d : Nat) (Ko : Nat → Nat → (List (Nat × Int × Int)) → Prop) (q o : Nat) (cs : (List (Nat × Int × Int))), se_P T Kf N mo d Ko q o cs → se_P T Kf N mo d (fun q' o' cs' => Ko q' o' cs' ∧ ∃ X, cs' = cs ++ X ∧ se_gm mo X) q o cs
  | 0, _, _, _, _, _, _, h => False.elim h
  | N + 1, 0, d, Ko, q, o, cs, h => by
    have g : ∀ {X : (List (Nat × Int × Int))}, se_g1 X → se_gm 0 X := fun hX => ⟨fun e => by exfalso; omega, fun _ => hX⟩
    refine ⟨fun cb => ⟨(h.1 cb).1, fun nf => ⟨fun c => ?_, fun c => ?_, fun c => ?_, fun c c2 => ?_⟩⟩, h.2⟩
    · refine se_P.mono (fun _ _ k => k) N 3 (d + 1) _ _ _ _ _ (fun q' o' cs' k => ?_) (se_P.ok N 3 (d + 1) _ _ _ _ (((h.1 cb).2 nf).1 c))
      obtain ⟨k1, X, eX, gX⟩ := k
      exact ⟨fun c41 => ⟨k1.1 c41, X, eX, g (gX.2 (by decide))⟩, k1.2⟩
    · refine se_P.mono (fun _ _ k => k) N 0 (d + 1) _ _ _ _ _ (fun q' o' cs' k => ?_) (se_P.ok N 0 (d + 1) _ _ _ _ (((h.1 cb).2 nf).2.1 c))
      obtain ⟨k1, X, eX, gX⟩ := k
      exact ⟨k1, X ++ [(14, 0, 0)], by rw [eX, List.append_assoc], g (gX.2 (by decide)).not⟩
    · exact ⟨((h.1 cb).2 nf).2.2.1 c, _, rfl, g (se_g1.leaf (by omega) (by omega))⟩
    · exact (((h.1 cb).2 nf).2.2.2 c c2).mono (fun _ _ k => k) (fun z v q' k => ⟨k, _, rfl, g (se_g1.leaf (by omega) c2)⟩)
  | N + 1, 1, d, Ko, q, o, cs, h => by
    have g : ∀ {X : (List (Nat × Int × Int))}, se_g0 X → se_gm 1 X := fun hX => ⟨fun _ => hX, fun e => absurd (Or.inl rfl) e⟩
    refine ⟨fun c => ?_, fun c => ⟨h.2 c, [], (List.append_nil cs).symm, g se_g0.nil⟩⟩
    refine se_P.mono (fun _ _ k => k) N 0 d _ _ _ _ _ (fun q' o' cs' k => ?_) (se_P.ok N 0 d _ _ _ _ (h.1 c))
    obtain ⟨k1, X, eX, gX⟩ := k
    refine se_P.mono (fun _ _ k => k) N 1 d _ _ _ _ _ (fun q2 o2 cs2 k2 => ?_) (se_P.ok N 1 d _ _ _ _ k1)
    obtain ⟨k3, Y, eY, gY⟩ := k2
    exact ⟨k3, (X ++ [(13, 0, 0)]) ++ Y, by rw [eY, eX]; simp only [List.append_assoc], g ((gX.2 (by decide)).join (gY.1 (Or.inl rfl)) (by decide) (by decide))⟩
  | N + 1, 2, d, Ko, q, o, cs, h => by
    refine se_P.mono (fun _ _ k => k) N 0 d _ _ _ _ _ (fun q' o' cs' k => ?_) (se_P.ok N 0 d _ _ _ _ h)
    obtain ⟨k1, X, eX, gX⟩ := k
    refine se_P.mono (fun _ _ k => k) N 1 d _ _ _ _ _ (fun q2 o2 cs2 k2 => ?_) (se_P.ok N 1 d _ _ _ _ k1)
    obtain ⟨k3, Y, eY, gY⟩ := k2
    exact ⟨k3, X ++ Y, by rw [eY, eX]; simp only [List.append_assoc], ⟨fun e => by exfalso; omega, fun _ => (gX.2 (by decide)).app (gY.1 (Or.inl rfl))⟩⟩
  | N + 1, 3, d, Ko, q, o, cs, h => by
    refine se_P.mono (fun _ _ k => k) N 2 d _ _ _ _ _ (fun q' o' cs' k => ?_) (se_P.ok N 2 d _ _ _ _ h)
    obtain ⟨k1, X, eX, gX⟩ := k
    refine se_P.mono (fun _ _ k => k) N 4 d _ _ _ _ _ (fun q2 o2 cs2 k2 => ?_) (se_P.ok N 4 d _ _ _ _ k1)
    obtain ⟨k3, Y, eY, gY⟩ := k2
    exact ⟨k3, X ++ Y, by rw [eY, eX]; simp only [List.append_assoc], ⟨fun e => by exfalso; omega, fun _ => (gX.2 (by decide)).app (gY.1 (by decide))⟩⟩
  | N + 1, mo + 4, d, Ko, q, o, cs, h => by
    have g : ∀ {X : (List (Nat × Int × Int))}, se_g0 X → se_gm (mo + 4) X := fun hX => ⟨fun _ => hX, fun e => absurd (Or.inr (by omega)) e⟩
    refine ⟨fun c => ?_, fun c => ⟨h.2 c, [], (List.append_nil cs).symm, g se_g0.nil⟩⟩
    refine se_P.mono (fun _ _ k => k) N 2 d _ _ _ _ _ (fun q' o' cs' k => ?_) (se_P.ok N 2 d _ _ _ _ (h.1 c))
    obtain ⟨k1, X, eX, gX⟩ := k
    refine se_P.mono (fun _ _ k => k) N 4 d _ _ _ _ _ (fun q2 o2 cs2 k2 => ?_) (se_P.ok N 4 d _ _ _ _ k1)
    obtain ⟨k3, Y, eY, gY⟩ := k2
    exact ⟨k3, (X ++ [(12, 0, 0)]) ++ Y, by rw [eY, eX]; simp only [List.append_assoc], g ((gX.2 (by decide)).join (gY.1 (by decide)) (by decide) (by decide))⟩
theorem se_A.mono {T : Nat → (Nat × Nat × Int × List Int × Nat)} {Kf Kf' : Int → Nat → Prop} {K K' : Nat → (List (Nat × Int × Int)) → Prop} {N : Nat} (hf : ∀ f a, Kf f a → Kf' f a) (ho : ∀ o cs, se_g1 cs → K o cs → K' o cs) (h : se_A T Kf K N) : se_A T Kf' K' N := se_P.mono hf N 3 1 _ _ _ _ _ (fun q o cs k => ⟨fun c => ho o cs (by
    obtain ⟨-, X, eX, gX⟩ := k
    rw [eX]; exact gX.2 (by decide)) (k.1.1 c), fun c => hf _ _ (k.1.2 c)⟩) (se_P.ok N 3 1 _ 0 0 [] h)
abbrev se_Od : Type := (Int × Nat) ⊕ (Nat × (List (Nat × Int × Int)))
def se_zd (f : Nat → Int) (n : Nat) (y : se_Od) : Prop := ∀ P : se_Od → Prop, P y → se_A (rv_T (fun k => rv_u8 (f k)) n 200) (fun f a => P (.inl (f, a))) (fun o cs => P (.inr (o, cs))) (4 * n + 7)
def se_vd (y : se_Od) : Int := Sum.elim (fun e => rv_vf e.2) (fun e => ((e.1 : Nat) : Int)) y
theorem se_vd_l (e : Int × Nat) : se_vd (.inl e) = rv_vf e.2 := by unfold se_vd; rw [Sum.elim_inl]
theorem se_vd_r (e : Nat × (List (Nat × Int × Int))) : se_vd (.inr e) = ((e.1 : Nat) : Int) := by unfold se_vd; rw [Sum.elim_inr]
/-- a SENTENCE that can be kept -/
def se_ok (cs : (List (Nat × Int × Int))) (o : Nat) : Prop := (o = 0 ↔ cs = []) ∧ cs.length ≤ 40 ∧ (cs ≠ [] → se_g1 cs)
theorem se_ok.of {cs : (List (Nat × Int × Int))} {o : Nat} (h0 : 0 < o) (h20 : o ≤ 20) (hl : cs.length + 1 ≤ 2 * o) (hg : se_g1 cs) : se_ok cs o := ⟨⟨fun e => by omega, fun e => by
    have q := hg.2 0
    rw [e] at q
    exact absurd (Option.some.inj q) (by decide)⟩, by omega, fun _ => hg⟩
theorem se_ok.nil : se_ok [] 0 := ⟨⟨fun _ => rfl, fun _ => rfl⟩, by decide, fun e => absurd rfl e⟩
def sq_H (H : Nat → Int) (off : Nat) (cs : (List (Nat × Int × Int))) : Prop := H (off + 356) = (cs.length : Int) ∧ ∀ j, j < cs.length → H (off + (357 + 3 * j)) = se_k (cs.getD j (0, 0, 0)).1 ∧ H (off + (358 + 3 * j)) = (cs.getD j (0, 0, 0)).2.1 ∧ H (off + (359 + 3 * j)) = (cs.getD j (0, 0, 0)).2.2
/-- the SENTENCE at E is the one that H tells from off on -/
def sd_1 (G : mj_G) (M : mj_M) (w : Nat → Nat) (E : Nat) (H : Nat → Int) (off : Nat) : Prop := ∃ o cs, se_R G M (w E) (w (E + 1)) (w (E + 2)) (w (E + 3)) cs o ∧ sq_H H off cs ∧ se_ok cs o
def lq_S (G : mj_G) (M : mj_M) (s kp kc : Nat) (w : Nat → Nat) : Prop := lq_SA G w ∧ lq_SB M w ∧ (∃ e e2, lq_SN M w e e2 ∧ sd_1 G M w e (M.1 s) 0) ∧ ∀ k, k < 2 → M.1 kc k ≠ 0 → sd_1 G M w (sd_i k) (M.1 kp) (538 * k)
abbrev lq_Su (W : List (Nat × Nat × Nat)) : Prop := ∀ q ∈ W, q.1 ≠ 1006 ∧ q.1 ≠ 34105 ∧ q.1 ≠ 35100 ∧ q.1 ≠ 36100 ∧ (q.1 ≠ 1007 ∨ q.2.2 < 2 ∨ 2 < q.2.1)
abbrev lq_Sw (W : List (Nat × Nat × Nat)) : Prop := ∀ q ∈ W, (q.1 ≠ 1006 ∧ q.1 ≠ 34105 ∧ q.1 ≠ 35100 ∧ q.1 ≠ 36100 ∧ (q.1 ≠ 1007 ∨ q.2.2 < 2 ∨ 2 < q.2.1)) ∧ (q.1 ≠ 51100 ∨ q.2.2 < 356) ∧ q.1 ≠ 70100 ∧ q.1 ≠ 48102
/-- cells of the SENTENCE at E' against those at E -/
def sd_q (M M' : mj_M) (w : Nat → Nat) (E E' : Nat) : Prop := M'.1 (w E') 4 = M.1 (w E) 4 ∧ M'.1 (w E') 5 = M.1 (w E) 5 ∧ ∀ j, j < 40 → M'.2.2 (w (E' + 1)) j = M.2.2 (w (E + 1)) j ∧ M'.1 (w (E' + 2)) j = M.1 (w (E + 2)) j ∧ M'.1 (w (E' + 3)) j = M.1 (w (E + 3)) j
section UJ
variable {G : mj_G} {M M' M1 M2 M3 : mj_M} {x s m kp kc tp bc bt n ud E E' off off' : Nat} {w : Nat → Nat} {z1 : Int} {H H' : Nat → Int} {W : List (Nat × Nat × Nat)}
theorem sd_q.tr (h : sd_q M M1 w E E') {E2 : Nat} (h2 : sd_q M1 M2 w E' E2) : sd_q M M2 w E E2 := ⟨h2.1.trans h.1, h2.2.1.trans h.2.1, fun j hj => ⟨(h2.2.2 j hj).1.trans (h.2.2 j hj).1, (h2.2.2 j hj).2.1.trans (h.2.2 j hj).2.1, (h2.2.2 j hj).2.2.trans (h.2.2 j hj).2.2⟩⟩
theorem sd_1.cg (h : sd_1 G M w E H off) (q : sd_q M M' w E E') (eH : ∀ j, 356 ≤ j → j < 537 → H' (off' + j) = H (off + j)) : sd_1 G M' w E' H' off' := by
  obtain ⟨o, cs, ⟨r1, r2, r3⟩, ⟨s1, s2⟩, ok⟩ := h
  refine ⟨o, cs, ⟨q.1.trans r1, q.2.1.trans r2, fun j hj => ?_⟩, ⟨(eH 356 (by decide) (by decide)).trans s1, fun j hj => ?_⟩, ok⟩
  · obtain ⟨⟨a, b1, b2⟩, b3, b4⟩ := r3 j hj
    have l := ok.2.1
    obtain ⟨c1, c2, c3⟩ := q.2.2 j (by omega)
    exact ⟨⟨a, c1.trans b1, b2⟩, c2.trans b3, c3.trans b4⟩
  · have l := ok.2.1
    obtain ⟨b1, b2, b3⟩ := s2 j hj
    exact ⟨(eH _ (by omega) (by omega)).trans b1, (eH _ (by omega) (by omega)).trans b2, (eH _ (by omega) (by omega)).trans b3⟩
theorem sd_q.of (h0 : M'.1 (w E) = M.1 (w E)) (h1 : M'.2.2 (w (E + 1)) = M.2.2 (w (E + 1))) (h2 : M'.1 (w (E + 2)) = M.1 (w (E + 2))) (h3 : M'.1 (w (E + 3)) = M.1 (w (E + 3))) : sd_q M M' w E E := ⟨by rw [h0], by rw [h0], fun j _ => ⟨by rw [h1], by rw [h2], by rw [h3]⟩⟩
theorem lq_SB.cg (h : lq_SB M w) (r : ∀ E, E ∈ sd_E → M'.2.2 (w E) = M.2.2 (w E)) (r7 : ∀ k, k < 2 → M'.2.2 (w (lq_sk k)) 2 = M.2.2 (w (lq_sk k)) 2) : lq_SB M' w := ⟨fun E hE => by rw [r E hE]; exact h.1 E hE, fun k hk => (r7 k hk).trans (h.2 k hk)⟩
theorem lq_SN.cg {e e2 : Nat} (h : lq_SN M w e e2) (r1 : M'.2.2 (w 29) 2 = M.2.2 (w 29) 2) (r2 : M'.2.2 (w 74) 2 = M.2.2 (w 74) 2) : lq_SN M' w e e2 := ⟨r1.trans h.1, r2.trans h.2.1, h.2.2⟩
theorem lq_sk7 (hA : lq_A G w) (k : Nat) : G (w (lq_sk k)) = (1007, 0) := by
  unfold lq_sk
  split
  · exact hA.2.2.2.2.1
  · exact hA.2.2.2.2.2.1
/-- what a frame that leaves SENTENCES leaves -/
theorem lq_SA.fr (gA : lq_SA G w) (hA : lq_A G w) (f : ab_frm W G M M') (cW : lq_Su W) : (∀ E, E ∈ sd_E → M'.2.2 (w E) = M.2.2 (w E) ∧ sd_q M M' w E E) ∧ (∀ a, G a = (1007, 0) → M'.2.2 a 2 = M.2.2 a 2) := by
  have fr : ∀ {a t n : Nat} (k : Nat), G a = (t, n) → (∀ q ∈ W, q.1 ≠ t) → M'.1 a k = M.1 a k ∧ M'.2.2 a k = M.2.2 a k := fun k g hh => f _ k (by rw [g]; rintro ⟨r, hr, e1, e2, e3⟩; exact hh r hr e1)
  refine ⟨fun E hE => ?_, fun a g => (f a 2 (by rw [g]; rintro ⟨r, hr, e1, e2, e3⟩; have := (cW r hr).2.2.2.2; omega)).2⟩
  obtain ⟨g1, g2, g3, g4⟩ := gA E hE
  exact ⟨funext fun k => (fr k g1 (fun q hq => (cW q hq).1)).2, sd_q.of (funext fun k => (fr k g1 (fun q hq => (cW q hq).1)).1) (funext fun k => (fr k g2 (fun q hq => (cW q hq).2.1)).2) (funext fun k => (fr k g3 (fun q hq => (cW q hq).2.2.1)).1) (funext fun k => (fr k g4 (fun q hq => (cW q hq).2.2.2.1)).1)⟩
theorem lq_S.go (h : lq_S G M s kp kc w) (hA : lq_A G w) (gs : G s = (51100, 537)) (gk : G kp = (70100, 1076)) (gc : G kc = (48102, 2)) (f : ab_frm W G M M') (cW : lq_Sw W) : lq_S G M' s kp kc w := by
  obtain ⟨gA, gB, ⟨e, e2, hN, h1⟩, hk⟩ := h
  obtain ⟨r1, r2⟩ := gA.fr hA f (fun q hq => (cW q hq).1)
  have ek : M'.1 kp = M.1 kp := funext fun k => (f kp k (by rw [gk]; rintro ⟨r, hr, e1, -⟩; exact (cW r hr).2.2.1 e1)).1
  have ec : M'.1 kc = M.1 kc := funext fun k => (f kc k (by rw [gc]; rintro ⟨r, hr, e1, -⟩; exact (cW r hr).2.2.2 e1)).1
  refine ⟨gA, gB.cg (fun E hE => (r1 E hE).1) (fun k hk => r2 _ (lq_sk7 hA k)), ⟨e, e2, hN.cg (r2 _ hA.2.2.1) (r2 _ hA.2.2.2.1), h1.cg (r1 e hN.in1.1).2 (fun j j1 j2 => ?_)⟩, fun k hk2 h0 => ?_⟩
  · exact (f s _ (by rw [gs]; rintro ⟨r, hr, e1, e2, e3⟩; have := (cW r hr).2.1; omega)).1
  · rw [ec] at h0; rw [ek]
    exact (hk k hk2 h0).cg (r1 _ (sd_i_in k)).2 (fun _ _ _ => rfl)
theorem lq_S.mv (h : lq_S G M s kp kc w) (e1 : M'.1 = M.1) (e2 : M'.2.2 = M.2.2) : lq_S G M' s kp kc w := by
  obtain ⟨gA, gB, ⟨e, e', hN, h1⟩, hk⟩ := h
  have q : ∀ E, sd_q M M' w E E := fun E => sd_q.of (by rw [e1]) (by rw [e2]) (by rw [e1]) (by rw [e1])
  refine ⟨gA, gB.cg (fun E _ => by rw [e2]) (fun k _ => by rw [e2]), ⟨e, e', hN.cg (by rw [e2]) (by rw [e2]), h1.cg (q e) (fun j _ _ => by rw [e1])⟩, fun k hk2 h0 => ?_⟩
  rw [e1] at h0 ⊢
  exact (hk k hk2 h0).cg (q _) (fun _ _ _ => rfl)
/-- between plain of the class and of the reference -/
def lq_Sq (G : mj_G) (M : mj_M) (s kp kc : Nat) (w : Nat → Nat) (y : rv_Om) : Prop := lq_SA G w ∧ lq_SB M w ∧ (∀ k, k < 2 → M.1 kc k ≠ 0 → sd_1 G M w (sd_i k) (M.1 kp) (538 * k)) ∧ ∃ e e2, lq_SN M w e e2 ∧ (∀ v, y = .inl v → sd_1 G M w e (M.1 s) 0) ∧ (∀ v, y = .inr v → M.1 (w e) 4 = 0 ∧ M.1 (w e) 5 = 0)
theorem lq_S.pl1 {y : rv_Om} (h : lq_S G M s kp kc w) (hA : lq_A G w) (gx : G x = (1011, 0)) (gtp : G tp = (1008, 0)) (gs : G s = (51100, 537)) (gk : G kp = (70100, 1076)) (gc : G kc = (48102, 2)) (py : lq_py G M M' x tp w y) : lq_Sq G M' s kp kc w y := by
  obtain ⟨p, q, oa, dl, fa, sa, ca, se, ye, ud, hN, goa, hX, hF, hO⟩ := py
  obtain ⟨⟨-, g74, g29, gse, gye, gud, gdl, gfa, gsa, gca, d0, d1, d2⟩, x_x0, x_x1, x_x2, x_x5, x_sp0, x_nw0, x_nw1, x_nw2, x_nw3⟩ := id hX
  obtain ⟨gq, gqn, -, -, gqw, gqt, gqb⟩ := hA.2.1 q hN.qin.1
  obtain ⟨gA, gB, ⟨e0, e0', hSN, h1⟩, hk⟩ := id h
  have ese : se = w e0 := Option.some.inj (x_nw2.symm.trans hSN.1)
  rcases y with e | ⟨PL, WA, OA, TO, BI, nm, r⟩
  · obtain ⟨⟨f2, fl, f1⟩, -⟩ := hF e rfl
    have tg : ∀ {a t u : Nat}, G a = (t, u) → t ≠ 1004 → t ≠ 26100 → t ≠ 28100 → t ≠ 29100 → t ≠ 30100 → t ≠ 1011 → t ≠ 1008 → M'.1 a = M.1 a := fun ga n1 n4 n6 n7 n8 n9 n10 => f1 _ (hn_ne ga gx n9) (hn_ne ga gtp n10) (hn_ne ga gq n1) (hn_ne ga gqw n7) (hn_ne ga goa n8) (fun t ht => hn_ne ga (gqt t ht) n4) (fun t ht => hn_ne ga (gqb t ht) n6)
    have rf : ∀ {a t u : Nat}, G a = (t, u) → t ≠ 1008 → M'.2.2 a = M.2.2 a := fun g h1 => funext fun j => f2 _ j (fun e => hn_ne g gtp h1 e.1)
    have sq : ∀ E, E ∈ sd_E → sd_q M M' w E E := fun E hE => by
      obtain ⟨g1, g2, g3, g4⟩ := gA E hE
      exact sd_q.of (tg g1 (by decide) (by decide) (by decide) (by decide) (by decide) (by decide) (by decide)) (rf g2 (by decide)) (tg g3 (by decide) (by decide) (by decide) (by decide) (by decide) (by decide) (by decide)) (tg g4 (by decide) (by decide) (by decide) (by decide) (by decide) (by decide) (by decide))
    have ek : M'.1 kp = M.1 kp := tg gk (by decide) (by decide) (by decide) (by decide) (by decide) (by decide) (by decide)
    have ec : M'.1 kc = M.1 kc := tg gc (by decide) (by decide) (by decide) (by decide) (by decide) (by decide) (by decide)
    have es : M'.1 s = M.1 s := tg gs (by decide) (by decide) (by decide) (by decide) (by decide) (by decide) (by decide)
    refine ⟨gA, gB.cg (fun E hE => rf (gA E hE).1 (by decide)) (fun k hk => congrFun (rf (lq_sk7 hA k) (by decide)) 2), fun k hk2 h0 => ?_, e0, e0', hSN.cg (congrFun (rf g29 (by decide)) 2) (congrFun (rf g74 (by decide)) 2), fun _ _ => h1.cg (sq e0 hSN.in1.1) (fun _ _ _ => by rw [es]), fun v e => by cases e⟩
    rw [ec] at h0; rw [ek]
    exact (hk k hk2 h0).cg (sq _ (sd_i_in k)) (fun _ _ _ => rfl)
  · obtain ⟨⟨o1, o2, o3, o4, o5, o6, o7, o8, o9, fo⟩, u1, u2, u3, u4, -⟩ := hO _ _ _ _ _ _ _ rfl
    have rf : ∀ {a t u : Nat} (j : Nat), G a = (t, u) → t ≠ 1008 → (t ≠ 1007 ∨ j ≠ 0) → M'.2.2 a j = M.2.2 a j := fun j g h1 h2 => o8 _ j (fun e => hn_ne g gtp h1 e.1) (fun e => h2.elim (fun z => hn_ne g g29 z e.1) (fun z => z e.2)) (fun e => h2.elim (fun z => hn_ne g g74 z e.1) (fun z => z e.2))
    have tg : ∀ {a t u : Nat}, G a = (t, u) → t ≠ 1004 → t ≠ 26100 → t ≠ 28100 → t ≠ 29100 → t ≠ 30100 → t ≠ 1011 → t ≠ 1008 → t ≠ 1010 → t ≠ 1009 → t ≠ 1002 → t ≠ 16100 → t ≠ 17100 → t ≠ 18100 → a ≠ se → M'.1 a = M.1 a := fun ga n1 n4 n6 n7 n8 n9 n10 m6 m7 m1 m2 m3 m4 m5 => fo _ (hn_ne ga gx n9) (hn_ne ga gtp n10) (hn_ne ga gq n1) (hn_ne ga gqw n7) (hn_ne ga goa n8) (fun t ht => hn_ne ga (gqt t ht) n4) (fun t ht => hn_ne ga (gqb t ht) n6) (hn_ne ga gdl m1) (hn_ne ga gfa m2) (hn_ne ga gsa m3) (hn_ne ga gca m4) m5 (hn_ne ga gye m6) (hn_ne ga gud m7)
    have tt : ∀ {a t u : Nat}, G a = (t, u) → (t = 35100 ∨ t = 36100 ∨ t = 70100 ∨ t = 48102) → M'.1 a = M.1 a := fun g ht => tg g (by omega) (by omega) (by omega) (by omega) (by omega) (by omega) (by omega) (by omega) (by omega) (by omega) (by omega) (by omega) (by omega) (hn_ne g gse (by omega))
    have sq : ∀ k, sd_q M M' w (sd_i k) (sd_i k) := fun k => by
      obtain ⟨g1, g2, g3, g4⟩ := gA (sd_i k) (sd_i_in k)
      have ne : w (sd_i k) ≠ se := by rw [ese]; exact sd_w (i := 0) (j := 0) hA (sd_i_in k) hSN.in1.1 (by decide) (by decide) (Or.inl (hSN.in1.2.2.2.1 k))
      exact sd_q.of (tg g1 (by decide) (by decide) (by decide) (by decide) (by decide) (by decide) (by decide) (by decide) (by decide) (by decide) (by decide) (by decide) (by decide) ne) (funext fun j => rf j g2 (by decide) (Or.inl (by decide))) (tt g3 (by decide)) (tt g4 (by decide))
    have ek : M'.1 kp = M.1 kp := tt gk (by decide)
    have ec : M'.1 kc = M.1 kc := tt gc (by decide)
    refine ⟨gA, gB.cg (fun E hE => funext fun j => rf j (gA E hE).1 (by decide) (Or.inl (by decide))) (fun k hk => rf 2 (lq_sk7 hA k) (by decide) (Or.inr (by decide))), fun k hk2 h0 => ?_, e0, e0', hSN.cg (rf 2 g29 (by decide) (Or.inr (by decide))) (rf 2 g74 (by decide) (Or.inr (by decide))), (fun v e => by cases e), fun v _ => by rw [← ese]; exact ⟨u3, u4⟩⟩
    rw [ec] at h0; rw [ek]
    exact (hk k hk2 h0).cg (sq k) (fun _ _ _ => rfl)
theorem lq_Sq.pl2 {y : rv_Om} (h : lq_Sq G M s kp kc w y) (hA : lq_A G w) (f : ab_frm W G M M') (cW : lq_Su W) (ek : M'.1 kp = M.1 kp) (ec : M'.1 kc = M.1 kc) (o1 : ∀ e, y = .inl e → M'.1 s = M.1 s) (o2 : ∀ e, y = .inr e → ∀ j, 184 ≤ j → j < 537 → M'.1 s j = 0) : lq_S G M' s kp kc w := by
  obtain ⟨gA, gB, hk, e, e2, hN, h1, h2⟩ := h
  obtain ⟨r1, r2⟩ := gA.fr hA f cW
  refine ⟨gA, gB.cg (fun E hE => (r1 E hE).1) (fun k hk => r2 _ (lq_sk7 hA k)), ⟨e, e2, hN.cg (r2 _ hA.2.2.1) (r2 _ hA.2.2.2.1), ?_⟩, fun k hk2 h0 => ?_⟩
  · have q := (r1 e hN.in1.1).2
    rcases y with v | v
    · exact (h1 v rfl).cg q (fun j _ _ => by rw [o1 v rfl])
    · have z := o2 v rfl
      obtain ⟨u4, u5⟩ := h2 v rfl
      exact ⟨0, [], ⟨q.1.trans u4, q.2.1.trans u5, fun j hj => absurd hj (Nat.not_lt_zero j)⟩, ⟨z _ (by decide) (by decide), fun j hj => absurd hj (Nat.not_lt_zero j)⟩, se_ok.nil⟩
  · rw [ec] at h0; rw [ek]
    exact (hk k hk2 h0).cg (r1 _ (sd_i_in k)).2 (fun _ _ _ => rfl)
/-- between image, restore of the class and of the reference -/
def sd_iy (G : mj_G) (M M' : mj_M) (kc : Nat) (w : Nat → Nat) (z1 : Int) (e : Nat) : Prop := (¬ (0 ≤ z1 ∧ z1 ≤ 1) → M' = M) ∧ ∀ k : Nat, k < 2 → z1 = (k : Int) → ∃ M1 M2 M3, sd_al G M M1 ∧ sd_cp w (sd_i k) e M1 M2 ∧ sd_al G M2 M3 ∧ M' = mj_p0 M3 kc k 1
def sd_ry (G : mj_G) (M M' : mj_M) (kc ud : Nat) (w : Nat → Nat) (z1 : Int) (e : Nat) : Prop := ((∀ k : Nat, k < 2 → z1 = (k : Int) → M.1 kc k = 0) → M' = M) ∧ ∀ k : Nat, k < 2 → z1 = (k : Int) → M.1 kc k ≠ 0 → ∃ M1 M2 M3, sd_al G M M1 ∧ sd_cp w e (sd_i k) M1 M2 ∧ sd_al G M2 M3 ∧ M' = mj_p0 M3 ud 3 0
def lq_Si (G : mj_G) (M : mj_M) (s kp kc : Nat) (w : Nat → Nat) (z1 : Int) : Prop := lq_SA G w ∧ lq_SB M w ∧ (∃ e e2, lq_SN M w e e2 ∧ sd_1 G M w e (M.1 s) 0) ∧ (∀ k : Nat, k < 2 → z1 ≠ (k : Int) → M.1 kc k ≠ 0 → sd_1 G M w (sd_i k) (M.1 kp) (538 * k)) ∧ (∀ k : Nat, k < 2 → z1 = (k : Int) → sd_1 G M w (sd_i k) (M.1 s) 0)
def lq_Sr (G : mj_G) (M : mj_M) (s kp kc : Nat) (w : Nat → Nat) (z1 : Int) : Prop := lq_SA G w ∧ lq_SB M w ∧ (∀ k : Nat, k < 2 → M.1 kc k ≠ 0 → sd_1 G M w (sd_i k) (M.1 kp) (538 * k)) ∧ ∃ e e2, lq_SN M w e e2 ∧ ((∀ k : Nat, k < 2 → z1 = (k : Int) → M.1 kc k = 0) → sd_1 G M w e (M.1 s) 0) ∧ (∀ k : Nat, k < 2 → z1 = (k : Int) → M.1 kc k ≠ 0 → sd_1 G M w e (M.1 kp) (538 * k))
theorem sd_al.q (h : sd_al G M M') (gA : lq_SA G w) (hE : E ∈ sd_E) : sd_q M M' w E E := by
  obtain ⟨g1, g2, g3, g4⟩ := gA E hE
  exact sd_q.of ((h _).1 (by rw [g1]; exact Or.inl rfl)) ((h _).2 (Or.inl (by rw [g2]; exact Or.inr (Or.inl rfl)))) ((h _).1 (by rw [g3]; exact Or.inr (Or.inr (Or.inl rfl)))) ((h _).1 (by rw [g4]; exact Or.inr (Or.inr (Or.inr (Or.inl rfl)))))
theorem sd_al.r (h : sd_al G M M') (gA : lq_SA G w) (hE : E ∈ sd_E) : M'.2.2 (w E) = M.2.2 (w E) := (h _).2 (Or.inl (by rw [(gA E hE).1]; exact Or.inl rfl))
theorem sd_al.r7 {a : Nat} (h : sd_al G M M') (g : G a = (1007, 0)) : M'.2.2 a = M.2.2 a := (h _).2 (Or.inr (Or.inl (by rw [g])))
theorem sd_al.ikc (h : sd_al G M M') (g : G kc = (48102, 2)) : M'.1 kc = M.1 kc := (h _).1 (by rw [g]; exact Or.inr (Or.inr (Or.inr (Or.inr rfl))))
theorem sd_cp.q {X : Nat} (h : sd_cp w E X M M') : sd_q M M' w X E := ⟨h.2.2.2.2.1, h.2.2.2.2.2, fun j hj => h.2.2.2.1 j hj⟩
theorem sd_cp.o {X Y : Nat} (h : sd_cp w E X M M') (hA : lq_A G w) (gA : lq_SA G w) (hE : E ∈ sd_E) (hY : Y ∈ sd_E) (n : Y ≠ E) : sd_q M M' w Y Y := by
  obtain ⟨g1, g2, g3, g4⟩ := gA E hE
  obtain ⟨k1, k2, k3, k4⟩ := gA Y hY
  exact sd_q.of (h.2.1 _ (sd_w (i := 0) (j := 0) hA hY hE (by decide) (by decide) (Or.inl n)) (hn_ne k1 g3 (by decide)) (hn_ne k1 g4 (by decide))) (h.2.2.1 _ (sd_w hA hY hE (by decide) (by decide) (Or.inl n))) (h.2.1 _ (hn_ne k3 g1 (by decide)) (sd_w hA hY hE (by decide) (by decide) (Or.inl n)) (hn_ne k3 g4 (by decide))) (h.2.1 _ (hn_ne k4 g1 (by decide)) (hn_ne k4 g3 (by decide)) (sd_w hA hY hE (by decide) (by decide) (Or.inl n)))
theorem sd_cp.r {X a t n : Nat} (h : sd_cp w E X M M') (gA : lq_SA G w) (hE : E ∈ sd_E) (g : G a = (t, n)) (ht : t ≠ 34105) : M'.2.2 a = M.2.2 a := h.2.2.1 a (hn_ne g (gA E hE).2.1 ht)
theorem sd_cp.ikc {X : Nat} (h : sd_cp w E X M M') (gA : lq_SA G w) (hE : E ∈ sd_E) (g : G kc = (48102, 2)) : M'.1 kc = M.1 kc := h.2.1 kc (hn_ne g (gA E hE).1 (by decide)) (hn_ne g (gA E hE).2.2.1 (by decide)) (hn_ne g (gA E hE).2.2.2 (by decide))
theorem sd_pk {k : Nat} {v : Int} (gA : lq_SA G w) (hE : E ∈ sd_E) {a t n : Nat} (g : G a = (t, n)) (ht : t ≠ 1006 ∧ t ≠ 35100 ∧ t ≠ 36100) : sd_q M (mj_p0 M a k v) w E E := by
  obtain ⟨g1, g2, g3, g4⟩ := gA E hE
  exact sd_q.of (wz_c (hn_ne g1 g ht.1.symm)) rfl (wz_c (hn_ne g3 g ht.2.1.symm)) (wz_c (hn_ne g4 g ht.2.2.symm))
/-- one copy, all that there is -/
theorem sd_all {X a t n k : Nat} {v : Int} (hA : lq_A G w) (gA : lq_SA G w) (gB : lq_SB M w) (hE : E ∈ sd_E) (al : sd_al G M M1) (hc : sd_cp w E X M1 M2) (al2 : sd_al G M2 M3) (g : G a = (t, n)) (ht : t ≠ 1006 ∧ t ≠ 35100 ∧ t ≠ 36100) (hX : X ∈ sd_E) : lq_SB (mj_p0 M3 a k v) w ∧ (∀ c, G c = (1007, 0) → (mj_p0 M3 a k v).2.2 c 2 = M.2.2 c 2) ∧ sd_q M (mj_p0 M3 a k v) w X E ∧ ∀ Y, Y ∈ sd_E → Y ≠ E → sd_q M (mj_p0 M3 a k v) w Y Y := by
  have rE : ∀ Y, Y ∈ sd_E → M3.2.2 (w Y) = M.2.2 (w Y) := fun Y hY => (al2.r gA hY).trans ((hc.r gA hE (gA Y hY).1 (by decide)).trans (al.r gA hY))
  have r7 : ∀ c, G c = (1007, 0) → M3.2.2 c = M.2.2 c := fun c gc => (al2.r7 gc).trans ((hc.r gA hE gc (by decide)).trans (al.r7 gc))
  exact ⟨gB.cg rE (fun k _ => congrFun (r7 _ (lq_sk7 hA k)) 2), fun c gc => congrFun (r7 c gc) 2, ((al.q gA hX).tr hc.q).tr ((al2.q gA hE).tr (sd_pk gA hE g ht)), fun Y hY nY => ((al.q gA hY).tr (hc.o hA gA hE hY nY)).tr ((al2.q gA hY).tr (sd_pk gA hY g ht))⟩
theorem lq_S.im1 (h : lq_S G M s kp kc w) (hA : lq_A G w) (gc : G kc = (48102, 2)) (es : M'.1 s = M.1 s) (ek : M'.1 kp = M.1 kp) (iy : ∀ e e2, lq_SN M w e e2 → sd_iy G M M' kc w z1 e) : lq_Si G M' s kp kc w z1 := by
  obtain ⟨gA, gB, ⟨e, e2, hN, h1⟩, hk⟩ := h
  obtain ⟨i0, i1⟩ := iy e e2 hN
  by_cases hz : 0 ≤ z1 ∧ z1 ≤ 1
  · have hk0 : z1.toNat < 2 := by omega
    have e0 : z1 = (z1.toNat : Int) := by omega
    generalize z1.toNat = k0 at hk0 e0
    obtain ⟨M1, M2, M3, al, hc, al2, eM⟩ := i1 k0 hk0 e0
    obtain ⟨b1, b2, b3, b4⟩ := sd_all (k := k0) (v := 1) hA gA gB (sd_i_in k0) al hc al2 gc (by decide) hN.in1.1
    rw [← eM] at b1 b2 b3 b4
    have ec : ∀ k, k ≠ k0 → M'.1 kc k = M.1 kc k := fun k hne => by
      rw [eM, hn_n (Or.inr hne), al2.ikc gc, hc.ikc gA (sd_i_in k0) gc, al.ikc gc]
    refine ⟨gA, b1, ⟨e, e2, hN.cg (b2 _ hA.2.2.1) (b2 _ hA.2.2.2.1), h1.cg (b4 e hN.in1.1 (fun q => hN.in1.2.2.2.1 k0 q.symm)) (fun j _ _ => by rw [es])⟩, fun k hk2 hz2 h0 => ?_, fun k hk2 hz2 => ?_⟩
    · have hne : k ≠ k0 := fun q => hz2 (by rw [q]; exact e0)
      rw [ec k hne] at h0
      rw [ek]
      exact (hk k hk2 h0).cg (b4 _ (sd_i_in k) (by unfold sd_i; split <;> split <;> omega)) (fun _ _ _ => rfl)
    · obtain rfl : k = k0 := by omega
      exact h1.cg b3 (fun j _ _ => by rw [es])
  · have e := i0 hz
    subst e
    exact ⟨gA, gB, ⟨_, e2, hN, h1⟩, fun k hk2 _ h0 => hk k hk2 h0, fun k hk2 e => absurd ⟨by omega, by omega⟩ hz⟩
theorem lq_Si.im2 (h : lq_Si G M s kp kc w z1) (hA : lq_A G w) (f : ab_frm W G M M') (cW : lq_Su W) (es : M'.1 s = M.1 s) (ec : M'.1 kc = M.1 kc) (o : (¬ (0 ≤ z1 ∧ z1 ≤ 1) ∧ M'.1 kp = M.1 kp) ∨ (∃ k : Nat, k ≤ 1 ∧ z1 = (k : Int) ∧ (∀ p, p < 537 → M'.1 kp (538 * k + p) = M.1 s p) ∧ (∀ q, q < 538 * k ∨ 538 * k + 538 ≤ q → M'.1 kp q = M.1 kp q))) : lq_S G M' s kp kc w := by
  obtain ⟨gA, gB, ⟨e, e2, hN, h0⟩, h1, h2⟩ := h
  obtain ⟨r1, r2⟩ := gA.fr hA f cW
  refine ⟨gA, gB.cg (fun E hE => (r1 E hE).1) (fun k hk => r2 _ (lq_sk7 hA k)), ⟨e, e2, hN.cg (r2 _ hA.2.2.1) (r2 _ hA.2.2.2.1), h0.cg (r1 e hN.in1.1).2 (fun j _ _ => by rw [es])⟩, fun k hk2 hc => ?_⟩
  rw [ec] at hc
  have q := (r1 _ (sd_i_in k)).2
  rcases o with ⟨hz, ek⟩ | ⟨k0, hk0, e0, o1, o3⟩
  · rw [ek]
    exact (h1 k hk2 (by omega) hc).cg q (fun _ _ _ => rfl)
  · by_cases ee : k = k0
    · subst ee
      exact (h2 k hk2 e0).cg q (fun j _ j2 => by rw [Nat.zero_add]; exact o1 j j2)
    · exact (h1 k hk2 (by omega) hc).cg q (fun j j1 j2 => o3 _ (by omega))
theorem lq_S.re1 (h : lq_S G M s kp kc w) (hA : lq_A G w) (gud : G ud = (1009, 0)) (es : M'.1 s = M.1 s) (ek : M'.1 kp = M.1 kp) (ec : M'.1 kc = M.1 kc) (ry : ∀ e e2, lq_SN M w e e2 → sd_ry G M M' kc ud w z1 e) : lq_Sr G M' s kp kc w z1 := by
  obtain ⟨gA, gB, ⟨e, e2, hN, h1⟩, hk⟩ := h
  obtain ⟨i0, i1⟩ := ry e e2 hN
  by_cases hz : ∀ k : Nat, k < 2 → z1 = (k : Int) → M.1 kc k = 0
  · have e := i0 hz
    subst e
    exact ⟨gA, gB, hk, _, e2, hN, fun _ => h1, fun k hk2 ez h0 => absurd (hz k hk2 ez) h0⟩
  · obtain ⟨k0, hk0, e0, c0⟩ : ∃ k : Nat, k < 2 ∧ z1 = (k : Int) ∧ M.1 kc k ≠ 0 := Classical.byContradiction (fun g => hz (fun k hk2 ez => Classical.byContradiction (fun g2 => g ⟨k, hk2, ez, g2⟩)))
    obtain ⟨M1, M2, M3, al, hc, al2, eM⟩ := i1 k0 hk0 e0 c0
    obtain ⟨b1, b2, b3, b4⟩ := sd_all (k := 3) (v := 0) hA gA gB hN.in1.1 al hc al2 gud (by decide) (sd_i_in k0)
    rw [← eM] at b1 b2 b3 b4
    refine ⟨gA, b1, fun k hk2 h0 => ?_, e, e2, hN.cg (b2 _ hA.2.2.1) (b2 _ hA.2.2.2.1), fun g => ?_, fun k hk2 ez h0 => ?_⟩
    · rw [ec] at h0; rw [ek]
      exact (hk k hk2 h0).cg (b4 _ (sd_i_in k) (hN.in1.2.2.2.1 k)) (fun _ _ _ => rfl)
    · have := g k0 hk0 e0
      rw [ec] at this
      exact absurd this c0
    · obtain rfl : k = k0 := by omega
      rw [ek]
      exact (hk k hk2 c0).cg b3 (fun _ _ _ => rfl)
theorem lq_Sr.re2 {ik : Nat} (h : lq_Sr G M s kp kc w z1) (hA : lq_A G w) (f : ab_frm W G M M') (cW : lq_Su W) (ek : M'.1 kp = M.1 kp) (ec : M'.1 kc = M.1 kc) (mk : ∀ k, k < 2 → M.1 kc k = M.1 ik k) (o : ((¬ (0 ≤ z1 ∧ z1 ≤ 1) ∨ M.1 ik z1.toNat = 0) ∧ M'.1 s = M.1 s) ∨ (∃ k : Nat, k ≤ 1 ∧ z1 = (k : Int) ∧ M.1 ik k ≠ 0 ∧ ∀ p, p < 537 → M'.1 s p = M.1 kp (538 * k + p))) : lq_S G M' s kp kc w := by
  obtain ⟨gA, gB, hk, e, e2, hN, h1, h2⟩ := h
  obtain ⟨r1, r2⟩ := gA.fr hA f cW
  refine ⟨gA, gB.cg (fun E hE => (r1 E hE).1) (fun k hk => r2 _ (lq_sk7 hA k)), ⟨e, e2, hN.cg (r2 _ hA.2.2.1) (r2 _ hA.2.2.2.1), ?_⟩, fun k hk2 hc => ?_⟩
  · have q := (r1 e hN.in1.1).2
    rcases o with ⟨hz, es⟩ | ⟨k0, hk0, e0, c0, o1⟩
    · refine (h1 (fun k hk2 ez => ?_)).cg q (fun j _ _ => by rw [es])
      rcases hz with hz | hz
      · exact absurd ⟨by omega, by omega⟩ hz
      · rw [ez] at hz
        rw [mk k hk2]; exact hz
    · exact (h2 k0 (by omega) e0 (by rw [mk k0 (by omega)]; exact c0)).cg q (fun j _ j2 => by rw [Nat.zero_add]; exact o1 j j2)
  · rw [ec] at hc; rw [ek]
    exact (hk k hk2 hc).cg (r1 _ (sd_i_in k)).2 (fun _ _ _ => rfl)
/-- all that the class's sentence tells, raw -/
def lq_sy (G : mj_G) (M M' : mj_M) (x tp : Nat) (w : Nat → Nat) (y : se_Od) : Prop := ∀ e e2, lq_SN M w e e2 → (∀ f, y = .inl f → sc_F G x tp (w e2) (w (e2 + 1)) (w (e2 + 2)) (w (e2 + 3)) (w 74) (w 29) (w e) f.1 M M') ∧ (∀ o cs, y = .inr (o, cs) → se_ok cs o ∧ sc_O G x tp (w e2) (w (e2 + 1)) (w (e2 + 2)) (w (e2 + 3)) (w 74) (w 29) (w e) cs o M M')
def lq_sz (M M' : mj_M) (s m : Nat) (y : se_Od) : Prop := (∀ f, y = .inl f → M'.1 s = M.1 s ∧ M'.1 m 15 = f.1) ∧ (∀ o cs, y = .inr (o, cs) → sq_O m s cs M M')
theorem lq_se1 (inv : ab_Inv G M) (gx : G x = (1011, 0)) (gtp : G tp = (1008, 0)) (x0 : M.2.2 x 0 = some tp) (h6 : lp_6 G M tp m bc bt) (hJ : lq_J G M x s kp kc w) (hnz : nz G M s m kp kc w) (hS : lq_S G M s kp kc w) (hn : n ≤ 940) (hs : M.1 tp 1 = (n : Int)) : mj_R mj_tab 40 147 [.inr (.inr (some x))] G M (fun r G' M' => ∃ y, r = some (.inl (se_vd y)) ∧ G' = G ∧ se_zd (M.1 bc) n y ∧ lq_sy G M M' x tp w y) := by
  obtain ⟨gbc, gbt, t0, m1, wl, l5⟩ := h6
  obtain ⟨hA, hB, p, q, hN, h1, h2⟩ := hJ
  have hp := hN.pin.1
  have g29 := hA.2.2.1
  have g74 := hA.2.2.2.1
  obtain ⟨gpl, gna, gta, gba, gwa, gtr, gbr, itr, ibr, p0, p1, p2, p3, rt, rb⟩ := lq_K hA hB hp
  obtain ⟨oa, p10, goa⟩ := hn_rf (k := 10) (q := (30100, 8)) inv gpl rfl (by decide) (by decide) (by decide) (fun e => absurd e (by decide))
  obtain ⟨ns, nk, ⟨r1, r2, -, -⟩, hNN, -⟩ := hnz
  obtain ⟨nm, a1, a2⟩ := hNN p q hN
  obtain ⟨gA, gB, ⟨e, e2, hSN, -⟩, -⟩ := hS
  have hAT : rv_AT G M (fun k => rv_u8 (M.1 bc k)) n 200 tp bc (w p) (w (p + 1)) (w (p + 2)) (w (p + 11)) (w (p + 20)) oa (fun t => w (p + 3 + t)) (fun t => w (p + 12 + t)) (rv_T (fun k => rv_u8 (M.1 bc k)) n 200) :=
    ⟨⟨gtp, gbc, gpl, gna, gta, gba, gwa, goa, gtr, gbr, itr, ibr, t0, p0, p1, p2, p3, p10, rt, rb, fun _ => rfl, wl, hn, by decide, inv.2.2.2.1⟩, rfl⟩
  have hX : sc_X G M x tp (w 74) (w 29) (w e2) (w e) := ⟨⟨gx, g74, g29, fun e => absurd (hA.1 _ _ (by decide) (by decide) e) (by decide)⟩, x0, hB.2.1, hB.2.2.1, hSN.2.1, hSN.1⟩
  obtain ⟨y, hy⟩ := dg_A (T := rv_T (fun k => rv_u8 (M.1 bc k)) n 200) (n := n) (fun q hq => rv_T_w hq)
  have uniq : ∀ e' e2', lq_SN M w e' e2' → e' = e ∧ e2' = e2 := fun e' e2' h => by
    have c1 := Option.some.inj (h.1.symm.trans hSN.1)
    have i1 := sd_E4 h.in1.1
    have i2 := sd_E4 hSN.in1.1
    have c2 := hA.1 _ _ (by omega) (by omega) c1
    have b1 := h.2.2
    have b2 := hSN.2.2
    omega
  refine r_X11_sentence (d := 6) (n := n) hAT hX (lq_SD gA gB.1 hSN.in1.2.1) hs a1 (se_A.mono (fun f a hf M' hM => ?_) (fun o cs hg hk o1 o2 o3 M' hM => ?_) (hy (fun y' => y' = y) rfl))
  · subst hf
    exact ⟨_, by rw [se_vd_l], rfl, hy, fun e' e2' h => by
      obtain ⟨rfl, rfl⟩ := uniq e' e2' h
      exact ⟨fun f' ef => by cases ef; exact hM, fun o cs ef => by cases ef⟩⟩
  · subst hk
    exact ⟨_, by rw [se_vd_r], rfl, hy, fun e' e2' h => by
      obtain ⟨rfl, rfl⟩ := uniq e' e2' h
      exact ⟨fun f' ef => (by cases ef), fun o' cs' ef => by cases ef; exact ⟨se_ok.of o1 o2 o3 hg, hM⟩⟩⟩
theorem lq_se2 {f : Nat → Int} {y : se_Od} (hV : lw_V G M x m tp s kp) (gbt : G bt = (50101, 940)) (m1 : M.2.2 m 1 = some bt) (et : M.1 bt = f) (hn : n ≤ 940) (hs : M.1 m 2 = (n : Int)) (hzd : se_zd f n y) : mj_R mj_tab 40 239 [.inr (.inr (some m))] G M (fun r G' M' => r = some (.inl (se_vd y)) ∧ G' = G ∧ lq_sz M M' s m y) := by
  obtain ⟨inv, ⟨gx, gm, gtp, gs, -⟩, ⟨x0, m6, -⟩, -⟩ := hV
  obtain ⟨rd, m8, grd⟩ := hn_rf (k := 8) (q := (53100, 135)) inv gm rfl (by decide) (by decide) (by decide) (fun e => absurd e (by decide))
  obtain ⟨sk, m52, gsk⟩ := hn_rf (k := 52) (q := (68100, 45)) inv gm rfl (by decide) (by decide) (by decide) (fun e => absurd e (by decide))
  refine r_X12_sentence (d := 36) (n := n) (B := fun k => rv_u8 (f k)) gm gbt grd gsk gs m1 m6 m8 m52 (fun k => by rw [et]) hn hs rfl (se_A.mono (fun f' a hf M' hM => ?_) (fun o cs hg hk o1 o2 o3 M' hM => ?_) (hzd (fun y' => y' = y) rfl))
  · subst hf
    exact ⟨by rw [se_vd_l], rfl, fun g eg => by cases eg; exact hM, fun o cs eg => by cases eg⟩
  · subst hk
    exact ⟨by rw [se_vd_r], rfl, fun g eg => (by cases eg), fun o' cs' eg => by cases eg; exact hM⟩
/-- between sentence of the class and of the reference -/
def lq_Sy (G : mj_G) (M : mj_M) (s kp kc : Nat) (w : Nat → Nat) (y : se_Od) : Prop := lq_SA G w ∧ lq_SB M w ∧ (∀ k, k < 2 → M.1 kc k ≠ 0 → sd_1 G M w (sd_i k) (M.1 kp) (538 * k)) ∧ ∃ e e2, lq_SN M w e e2 ∧ (∀ v, y = .inl v → sd_1 G M w e (M.1 s) 0) ∧ (∀ o cs, y = .inr (o, cs) → se_R G M (w e) (w (e + 1)) (w (e + 2)) (w (e + 3)) cs o ∧ se_ok cs o)
theorem lq_S.sy {y : se_Od} (h : lq_S G M s kp kc w) (hA : lq_A G w) (gx : G x = (1011, 0)) (gtp : G tp = (1008, 0)) (gs : G s = (51100, 537)) (gk : G kp = (70100, 1076)) (gc : G kc = (48102, 2)) (sy : lq_sy G M M' x tp w y) : lq_Sy G M' s kp kc w y := by
  obtain ⟨gA, gB, ⟨e, e2, hN, h1⟩, hk⟩ := h
  obtain ⟨s1, s2⟩ := sy e e2 hN
  have i1 := hN.in1
  obtain ⟨k1, k2, k3, k4⟩ := gA e2 i1.2.1
  have fr : sc_fr G tp (w e2) (w (e2 + 1)) (w (e2 + 2)) (w (e2 + 3)) (w 74) (w 29) M M' := by
    rcases y with f | ⟨o, cs⟩
    · exact (s1 f rfl).2.2.2
    · exact (s2 o cs rfl).2.2.2.2.2
  have tg : ∀ {a t u : Nat}, G a = (t, u) → (t = 1006 ∨ t = 35100 ∨ t = 36100 ∨ t = 51100 ∨ t = 70100 ∨ t = 48102) → a ≠ w e2 → a ≠ w (e2 + 2) → a ≠ w (e2 + 3) → M'.1 a = M.1 a := fun g ht n1 n2 n3 => fr.1 _ _ _ g (by omega) (by omega) (by omega) (by omega) (by omega) (by omega) (by omega) n1 n2 n3
  have rf : ∀ {a t u : Nat} (j : Nat), G a = (t, u) → t ≠ 1008 → (t ≠ 1007 ∨ j ≠ 2) → a ≠ w (e2 + 1) → M'.2.2 a j = M.2.2 a j := fun j g c1 c2 n1 => fr.2 _ j n1 (fun q => hn_ne g gtp c1 q.1) (fun q => c2.elim (fun z => hn_ne g hA.2.2.2.1 z q.1) (fun z => z q.2)) (fun q => c2.elim (fun z => hn_ne g hA.2.2.1 z q.1) (fun z => z q.2))
  have sq : ∀ E, E ∈ sd_E → E ≠ e2 → sd_q M M' w E E := fun E hE nE => by
    obtain ⟨g1, g2, g3, g4⟩ := gA E hE
    exact sd_q.of (tg g1 (by decide) (sd_w (i := 0) (j := 0) hA hE i1.2.1 (by decide) (by decide) (Or.inl nE)) (hn_ne g1 k3 (by decide)) (hn_ne g1 k4 (by decide))) (funext fun j => rf j g2 (by decide) (Or.inl (by decide)) (sd_w hA hE i1.2.1 (by decide) (by decide) (Or.inl nE))) (tg g3 (by decide) (hn_ne g3 k1 (by decide)) (sd_w hA hE i1.2.1 (by decide) (by decide) (Or.inl nE)) (hn_ne g3 k4 (by decide))) (tg g4 (by decide) (hn_ne g4 k1 (by decide)) (hn_ne g4 k3 (by decide)) (sd_w hA hE i1.2.1 (by decide) (by decide) (Or.inl nE)))
  have ot : ∀ {a t u : Nat}, G a = (t, u) → (t = 51100 ∨ t = 70100 ∨ t = 48102) → M'.1 a = M.1 a := fun g ht => tg g (by omega) (hn_ne g k1 (by omega)) (hn_ne g k3 (by omega)) (hn_ne g k4 (by omega))
  have ek : M'.1 kp = M.1 kp := ot gk (by decide)
  have ec : M'.1 kc = M.1 kc := ot gc (by decide)
  have es : M'.1 s = M.1 s := ot gs (by decide)
  have b : lq_SB M' w := gB.cg (fun E hE => funext fun j => rf j (gA E hE).1 (by decide) (Or.inl (by decide)) (hn_ne (gA E hE).1 k2 (by decide))) (fun k hk => by
    have g7 := lq_sk7 hA k
    refine fr.2 _ 2 (hn_ne g7 k2 (by decide)) (fun q => hn_ne g7 gtp (by decide) q.1) (fun q => ?_) (fun q => ?_)
    · have i := hA.1 _ _ (by unfold lq_sk; split <;> decide) (by decide) q.1
      revert i; unfold lq_sk; split <;> decide
    · have i := hA.1 _ _ (by unfold lq_sk; split <;> decide) (by decide) q.1
      revert i; unfold lq_sk; split <;> decide)
  refine ⟨gA, b, fun k hk2 h0 => ?_, ?_⟩
  · rw [ec] at h0; rw [ek]
    exact (hk k hk2 h0).cg (sq _ (sd_i_in k) (i1.2.2.2.2 k)) (fun _ _ _ => rfl)
  · rcases y with f | ⟨o, cs⟩
    · obtain ⟨c1, c2, -⟩ := s1 f rfl
      exact ⟨e, e2, ⟨c1, c2, hN.2.2⟩, fun _ _ => h1.cg (sq e i1.1 i1.2.2.1) (fun _ _ _ => by rw [es]), fun o cs q => by cases q⟩
    · obtain ⟨ok, c1, c2, c3, -⟩ := s2 o cs rfl
      refine ⟨e2, e, ⟨c1, c2, hN.2.2.elim (fun q => Or.inr ⟨q.2, q.1⟩) (fun q => Or.inl ⟨q.2, q.1⟩)⟩, fun v q => (by cases q), fun o' cs' q => by cases q; exact ⟨c3, ok⟩⟩
theorem lq_Sy.sz {y : se_Od} (h : lq_Sy G M s kp kc w y) (hA : lq_A G w) (f : ab_frm W G M M') (cW : lq_Su W) (ek : M'.1 kp = M.1 kp) (ec : M'.1 kc = M.1 kc) (sz : lq_sz M M' s m y) : lq_S G M' s kp kc w := by
  obtain ⟨gA, gB, hk, e, e2, hN, h1, h2⟩ := h
  obtain ⟨r1, r2⟩ := gA.fr hA f cW
  refine ⟨gA, gB.cg (fun E hE => (r1 E hE).1) (fun k hk => r2 _ (lq_sk7 hA k)), ⟨e, e2, hN.cg (r2 _ hA.2.2.1) (r2 _ hA.2.2.2.1), ?_⟩, fun k hk2 h0 => ?_⟩
  · have q := (r1 e hN.in1.1).2
    rcases y with v | ⟨o, cs⟩
    · exact (h1 v rfl).cg q (fun j _ _ => by rw [(sz.1 v rfl).1])
    · obtain ⟨⟨u1, u2, u3⟩, ok⟩ := h2 o cs rfl
      obtain ⟨⟨v1, v2⟩, -⟩ := sz.2 o cs rfl
      refine ⟨o, cs, ⟨q.1.trans u1, q.2.1.trans u2, fun j hj => ?_⟩, ⟨by rw [Nat.zero_add]; exact v1, fun j hj => by rw [Nat.zero_add, Nat.zero_add, Nat.zero_add]; exact v2 j hj⟩, ok⟩
      obtain ⟨⟨a, b1, b2⟩, b3, b4⟩ := u3 j hj
      have l := ok.2.1
      obtain ⟨c1, c2, c3⟩ := q.2.2 j (by omega)
      exact ⟨⟨a, c1.trans b1, b2⟩, c2.trans b3, c3.trans b4⟩
  · rw [ec] at h0; rw [ek]
    exact (hk k hk2 h0).cg (r1 _ (sd_i_in k)).2 (fun _ _ _ => rfl)
theorem lq_imgS (hI : ab_Inv G M) (gx : G x = (1011, 0)) (hA : lq_A G w) (hB : lq_B M w x) (hS : lq_S G M s kp kc w) (x4 : M.2.2 x 4 = some kc) (gkc : G kc = (48102, 2)) : mj_R mj_tab 40 127 [.inr (.inr (some x)), .inl z1] G M (fun _ _ M' => ∀ e e2, lq_SN M w e e2 → sd_iy G M M' kc w z1 e) := by
  obtain ⟨gA, gB, ⟨e, e2, hN, -⟩, -⟩ := hS
  have uniq : ∀ e' e2', lq_SN M w e' e2' → e' = e := fun e' e2' h => by
    have c1 := Option.some.inj (h.1.symm.trans hN.1)
    have i1 := sd_E4 h.in1.1
    have i2 := sd_E4 hN.in1.1
    exact hA.1 _ _ (by omega) (by omega) c1
  exact r_X11_imageS hI gx hA hB gA gB hN x4 gkc (fun hz e' e2' h => ⟨fun _ => rfl, fun k hk e => absurd ⟨by omega, by omega⟩ hz⟩) (fun k hk e M1 M2 M3 al hc al2 e' e2' h => ⟨fun hz => absurd ⟨by omega, by omega⟩ hz, fun k' hk' ez => by
    obtain rfl : k' = k := by omega
    rw [uniq e' e2' h]
    exact ⟨M1, M2, M3, al, hc, al2, rfl⟩⟩)
theorem lq_rstS (hI : ab_Inv G M) (gx : G x = (1011, 0)) (hA : lq_A G w) (hB : lq_B M w x) (hS : lq_S G M s kp kc w) (x4 : M.2.2 x 4 = some kc) (gkc : G kc = (48102, 2)) (x5 : M.2.2 x 5 = some ud) (gud : G ud = (1009, 0)) : mj_R mj_tab 40 144 [.inr (.inr (some x)), .inl z1] G M (fun _ _ M' => ∀ e e2, lq_SN M w e e2 → sd_ry G M M' kc ud w z1 e) := by
  obtain ⟨gA, gB, ⟨e, e2, hN, -⟩, -⟩ := hS
  have uniq : ∀ e' e2', lq_SN M w e' e2' → e' = e := fun e' e2' h => by
    have c1 := Option.some.inj (h.1.symm.trans hN.1)
    have i1 := sd_E4 h.in1.1
    have i2 := sd_E4 hN.in1.1
    exact hA.1 _ _ (by omega) (by omega) c1
  exact r_X11_restoreS hI gx hA hB gA gB hN x4 gkc x5 gud (fun hz e' e2' h => ⟨fun _ => rfl, fun k hk ez h0 => by
    rcases hz with hz | ⟨k2, a, b, e0⟩
    · exact absurd ⟨by omega, by omega⟩ hz
    · obtain rfl : k2 = k := by omega
      exact absurd e0 h0⟩) (fun k hk ez h0 M1 M2 M3 al hc al2 e' e2' h => ⟨fun hz => absurd (hz k hk ez) h0, fun k' hk' ez' _ => by
    obtain rfl : k' = k := by omega
    rw [uniq e' e2' h]
    exact ⟨M1, M2, M3, al, hc, al2, rfl⟩⟩)
def lp_N (G : mj_G) (M : mj_M) (x m tp s kp bc bt kc kr : Nat) (w : Nat → Nat) (c : Int) : Prop := lp_U G M x m tp s kp bc bt kc kr w c ∧ lq_S G M s kp kc w
theorem lp_N.le {kr : Nat} {c c' : Int} (h : lp_N G M x m tp s kp bc bt kc kr w c) (hc : c ≤ c') : lp_N G M x m tp s kp bc bt kc kr w c' := ⟨h.1.le hc, h.2⟩
theorem lp_N.mv {kr : Nat} {c : Int} (h : lp_N G M x m tp s kp bc bt kc kr w c) (e1 : M'.1 = M.1) (e2 : M'.2.2 = M.2.2) (e3 : ∀ y k, (G y).1 ≠ 90103 → M'.2.1 y k = M.2.1 y k) : lp_N G M' x m tp s kp bc bt kc kr w c := ⟨h.1.mv e1 e2 e3, h.2.mv e1 e2⟩
theorem sz_headS {w : sx_w} {h : sx_H} {G : mj_G} {M : mj_M} (hR : sx_RH w h G M) (k2 : sz_hk h = true) : lq_S (sz_G w h G) (sz_M w h G M) (w.2.2.2 338) (w.2.2.2 357) (w.2.2.2 120) w.2.2.2 := by
  have n1 := (sz_hk_s k2).1
  obtain ⟨ya, yb, -, -, -⟩ := sz_hy_s k2
  have tg : ∀ i t n, (i, t, n) ∈ sz_lt → sz_G w h G (w.2.2.2 i) = (t, n) := fun i t n he => sz_tg_s (yb (i, t, n) he) hR (by have := sz_lt_lt _ he; omega)
  have rq : ∀ i k j, (i, k, j) ∈ sz_lr → (sz_M w h G M).2.2 (w.2.2.2 i) k = some (w.2.2.2 j) := fun i k j he => sz_rq_s (ya (i, k, j) he) hR (by have := (sz_lr_lt _ he).1; omega) (sz_lr_lt _ he).2
  have c0 : (sz_M w h G M).1 (w.2.2.2 120) 0 = 0 := sz_q_s hR k2 (by decide +kernel)
  have c1 : (sz_M w h G M).1 (w.2.2.2 120) 1 = 0 := sz_q_s hR k2 (by decide +kernel)
  have e4 : (sz_M w h G M).1 (w.2.2.2 56) 4 = 0 := sz_q_s hR k2 (by decide +kernel)
  have e5 : (sz_M w h G M).1 (w.2.2.2 56) 5 = 0 := sz_q_s hR k2 (by decide +kernel)
  have s0 : (sz_M w h G M).1 (w.2.2.2 338) 356 = 0 := sz_q_s hR k2 (by decide +kernel)
  refine ⟨fun E hE => ?_, ⟨fun E hE => ?_, fun k hk => ?_⟩, ⟨56, 101, ⟨rq 29 2 56 (by decide +kernel), rq 74 2 101 (by decide +kernel), Or.inl ⟨rfl, rfl⟩⟩, 0, [], ⟨e4, e5, fun j hj => absurd hj (Nat.not_lt_zero j)⟩, ⟨s0, fun j hj => absurd hj (Nat.not_lt_zero j)⟩, se_ok.nil⟩, fun k hk h0 => ?_⟩
  · rcases sd_E4 hE with e | e | e | e <;> subst e
    · exact ⟨tg _ _ _ (by decide +kernel), tg _ _ _ (by decide +kernel), tg _ _ _ (by decide +kernel), tg _ _ _ (by decide +kernel)⟩
    · exact ⟨tg _ _ _ (by decide +kernel), tg _ _ _ (by decide +kernel), tg _ _ _ (by decide +kernel), tg _ _ _ (by decide +kernel)⟩
    · exact ⟨tg _ _ _ (by decide +kernel), tg _ _ _ (by decide +kernel), tg _ _ _ (by decide +kernel), tg _ _ _ (by decide +kernel)⟩
    · exact ⟨tg _ _ _ (by decide +kernel), tg _ _ _ (by decide +kernel), tg _ _ _ (by decide +kernel), tg _ _ _ (by decide +kernel)⟩
  · rcases sd_E4 hE with e | e | e | e <;> subst e
    · exact ⟨rq _ _ _ (by decide +kernel), rq _ _ _ (by decide +kernel), rq _ _ _ (by decide +kernel)⟩
    · exact ⟨rq _ _ _ (by decide +kernel), rq _ _ _ (by decide +kernel), rq _ _ _ (by decide +kernel)⟩
    · exact ⟨rq _ _ _ (by decide +kernel), rq _ _ _ (by decide +kernel), rq _ _ _ (by decide +kernel)⟩
    · exact ⟨rq _ _ _ (by decide +kernel), rq _ _ _ (by decide +kernel), rq _ _ _ (by decide +kernel)⟩
  · rcases (by omega : k = 0 ∨ k = 1) with e | e <;> subst e
    · exact rq 246 2 273 (by decide +kernel)
    · exact rq 291 2 318 (by decide +kernel)
  · exfalso
    rcases (by omega : k = 0 ∨ k = 1) with e | e <;> subst e
    · exact h0 c0
    · exact h0 c1
end UJ
end
