/-! ===== the reference reads a SENTENCE: leaves ===== -/
/-- the reference's number of a code -/
def se_k (w : Nat) : Int := if w < 15 then 24 - (w : Int) else (w : Int) - 15
/-- the code of what is joined -/
def se_cv (x : Int) : Nat × Int × Int := (if x = 11 then 13 else 12, 0, 0)
def sr_K (M : mj_M) (sk : Nat) : List Int → Prop
  | [] => True
  | x :: S => M.1 sk S.length = x ∧ sr_K M sk S
def sr_R (m rd sk : Nat) (S : List Int) (dp iw : Int) (o : Nat) (cs : (List (Nat × Int × Int))) (M : mj_M) : Prop := M.1 m 53 = (cs.length : Int) ∧ M.1 m 54 = (o : Int) ∧ M.1 m 55 = (S.length : Int) ∧ M.1 m 56 = dp ∧ M.1 m 57 = iw ∧ (∀ j, j < cs.length → M.1 rd (3 * j) = se_k (cs.getD j (0, 0, 0)).1 ∧ M.1 rd (3 * j + 1) = (cs.getD j (0, 0, 0)).2.1 ∧ M.1 rd (3 * j + 2) = (cs.getD j (0, 0, 0)).2.2) ∧ sr_K M sk S
def sr_A (G : mj_G) (Mb : mj_M) (B : Nat → Int) (n m bt rd sk : Nat) (T : Nat → (Nat × Nat × Int × List Int × Nat)) : Prop := (G m = (1012, 0) ∧ G bt = (50101, 940) ∧ G rd = (53100, 135) ∧ G sk = (68100, 45)) ∧ (Mb.2.2 m 1 = some bt ∧ Mb.2.2 m 8 = some rd ∧ Mb.2.2 m 52 = some sk) ∧ (∀ k, rv_u8 (Mb.1 bt k) = B k) ∧ n ≤ 940 ∧ Mb.1 m 3 = (n : Int) ∧ Mb.1 m 5 = 200 ∧ T = rv_T B n 200
def sr_H (Mb : mj_M) (n m rd sk : Nat) (T : Nat → (Nat × Nat × Int × List Int × Nat)) (S : List Int) (dp iw : Int) (q o : Nat) (cs : (List (Nat × Int × Int))) (M : mj_M) : Prop := (∀ a, a ≠ m → a ≠ rd → a ≠ sk → M.1 a = Mb.1 a) ∧ M.2.2 = Mb.2.2 ∧ (∀ a, a ≠ m → M.2.1 a = Mb.2.1 a) ∧ (∀ k, ¬ k ∈ [4, 11, 12, 13, 14, 53, 54, 55, 56, 57] → M.1 m k = Mb.1 m k) ∧ rv_tq (T q) m M ∧ q ≤ n ∧ sr_R m rd sk S dp iw o cs M
def sr_F (Mb : mj_M) (m rd sk : Nat) (f : Int) (a : Nat) (M : mj_M) : Prop := M.1 m 15 = f ∧ M.1 m 16 = (a : Int) ∧ (∀ a, a ≠ m → a ≠ rd → a ≠ sk → M.1 a = Mb.1 a)
section UE
variable {G : mj_G} {Mb M M' : mj_M} {B : Nat → Int} {n m bt rd sk : Nat} {T : Nat → (Nat × Nat × Int × List Int × Nat)} {Q : mj_P} {d q : Nat} {cs cs2 : (List (Nat × Int × Int))} {o o2 w i : Nat} {z v x dp dp2 iw iw2 : Int} {S S2 P : List Int}
theorem sr_K.cg (e : ∀ j, j < S.length → M'.1 sk j = M.1 sk j) (h : sr_K M sk S) : sr_K M' sk S := by
  induction S with
  | nil => trivial
  | cons y S ih =>
    exact ⟨(e S.length (by show S.length < S.length + 1; omega)).trans h.1, ih (fun j hj => e j (by show j < S.length + 1; omega)) h.2⟩
theorem sr_H.cg (h : sr_H Mb n m rd sk T S dp iw q o cs M) (e1 : ∀ a, a ≠ m → a ≠ rd → a ≠ sk → M'.1 a = M.1 a) (e2 : M'.2 = M.2) (e3 : ∀ k, k < 53 ∨ 57 < k → M'.1 m k = M.1 m k) (r : sr_R m rd sk S2 dp2 iw2 o2 cs2 M') : sr_H Mb n m rd sk T S2 dp2 iw2 q o2 cs2 M' := by
  obtain ⟨h1, h2, h3, h4, h5, h6, -⟩ := h
  refine ⟨fun a a1 a2 a3 => (e1 a a1 a2 a3).trans (h1 a a1 a2 a3), by rw [e2]; exact h2, fun a ha => by rw [e2]; exact h3 a ha, fun k hk => (e3 k ?_).trans (h4 k hk), h5.cg (fun k hk => e3 k (by omega)) (by rw [e2]), h6, r⟩
  simp only [List.mem_cons, List.not_mem_nil, or_false] at hk
  omega
theorem sr_tw (hA : sr_A G Mb B n m bt rd sk T) (hq : q ≤ n) : rv_tw n q (T q) := by rw [hA.2.2.2.2.2.2]; exact rv_T_w hq
theorem sr_xl (hA : sr_A G Mb B n m bt rd sk T) (hq : q ≤ n) : rv_x T q ≤ n := (sr_tw hA hq).2.2.2.2.2
theorem sr_next (hA : sr_A G Mb B n m bt rd sk T) (h : sr_H Mb n m rd sk T S dp iw q o cs M) (k0 : (T q).1 ≠ 0) (k5 : (T q).1 ≠ 5) (hQ : ∀ M', sr_H Mb n m rd sk T S dp iw (rv_x T q) o cs M' → Q none G M') : mj_R mj_tab (d + 2) 216 [.inr (.inr (some m))] G M Q := by
  obtain ⟨⟨gm, gbt, grd, gsk⟩, ⟨r1, r8, r52⟩, rb, n1, m3, m5, hT⟩ := id hA
  obtain ⟨h1, h2, h3, h4, h5, h6, p1, p2, p3, p4, p5, p6, p7⟩ := id h
  have hx := sr_xl hA h6
  refine r_X12_next (d := d) (B := B) (n := n) (lim := 200) (p := rv_x T q) gm gbt n1 (by rw [h2]; exact r1) ((h4 3 (by decide)).trans m3) ((h4 5 (by decide)).trans m5) (h5.2.2.2.2.2 k0 k5) (fun k => by rw [h1 bt (hn_ne gbt gm (by decide)) (hn_ne gbt grd (by decide)) (hn_ne gbt gsk (by decide))]; exact rb k) (fun M' hM => hQ M' ?_)
  obtain ⟨o1, o2, o3, -⟩ := id hM
  have oc : ∀ a, a ≠ m → M'.1 a = M.1 a := fun a ha => funext fun k => o1 a k (fun e => ha e.1)
  have om : ∀ k, ¬ k ∈ [4, 11, 12, 13, 14] → M'.1 m k = M.1 m k := fun k hk => o1 m k (fun e => hk e.2)
  have ol : ∀ a, a ≠ m → M'.2.1 a = M.2.1 a := fun a ha => funext fun k => o2 a k (fun e => ha e.1)
  refine ⟨fun a a1 a2 a3 => (oc a a1).trans (h1 a a1 a2 a3), o3.trans h2, fun a ha => (ol a ha).trans (h3 a ha), fun k hk => (om k (fun e => hk ?_)).trans (h4 k hk), by rw [hT]; rw [hT] at hx hM; exact rv_tq_of (rv_T_w hx).1 (rv_nx_T hx hM), hx, (om 53 (by decide)).trans p1, (om 54 (by decide)).trans p2, (om 55 (by decide)).trans p3, (om 56 (by decide)).trans p4, (om 57 (by decide)).trans p5, fun j hj => by rw [oc rd (hn_ne grd gm (by decide))]; exact p6 j hj, p7.cg (fun j _ => by rw [oc sk (hn_ne gsk gm (by decide))])⟩
  simp only [List.mem_cons, List.not_mem_nil, or_false] at e ⊢
  omega
theorem sr_bad (hA : sr_A G Mb B n m bt rd sk T) {f : Int} (h : sr_H Mb n m rd sk T S dp iw q o cs M) (hQ : ∀ M', sr_F Mb m rd sk f (T q).2.1 M' → Q (some (.inl 0)) G M') : mj_R mj_tab (d + 1) 161 [.inr (.inr (some m)), .inl f] G M Q := by
  have gm := hA.1.1
  refine ⟨Nat.le_of_ble_eq_true rfl, ?_⟩
  show wz d mt_X12_bad.2.2.2.2.1 Q mt_X12_bad.2.2.2.2.1 [some (.inr (.inr (some m))), some (.inl f)] [] G M _ _
  refine w_aln rfl ?_
  refine w_iln rfl ?_
  refine w_pi gm rfl (by decide) rfl (fun q => by cases q) ?_
  refine w_aln rfl ?_
  refine w_aln rfl ?_
  refine w_gi gm rfl (by decide) rfl rfl ?_
  refine w_pi gm rfl (by decide) rfl (fun q => by cases q) ?_
  refine w_ic ?_
  exact w_iret (fun _ => Or.inl rfl) (hQ _ ⟨(hn_n (Or.inr (by decide))).trans hn_s, hn_s.trans ((hn_n (Or.inr (by decide))).trans h.2.2.2.2.1.2.1), fun a a1 a2 a3 => (wz_c a1).trans ((wz_c a1).trans (h.1 a a1 a2 a3))⟩)
theorem sr_isWord (hA : sr_A G Mb B n m bt rd sk T) {W : Int64} (h : sr_H Mb n m rd sk T S dp iw q o cs M) (hi : i < 24) (hW : rv_8 (rv_rs.getD i []) = W) (h1 : se_j (T q) = i → Q (some (.inl 1)) G M) (h0 : ¬ se_j (T q) = i → Q (some (.inl 0)) G M) : mj_R mj_tab (d + 1) 206 [.inr (.inr (some m)), .inr (.inl W)] G M Q := by
  have gm := hA.1.1
  have hS := h.2.2.2.2.1
  have hw := sr_tw hA h.2.2.2.2.2.1
  have hk := rv_tkc_f hw.1
  refine ⟨Nat.le_of_ble_eq_true rfl, ?_⟩
  show wz d mt_X12_isWord.2.2.2.2.1 Q mt_X12_isWord.2.2.2.2.1 [some (.inr (.inr (some m))), some (.inr (.inl W)), none] [] G M _ _
  refine w_aln rfl ?_
  refine w_gi gm rfl (by decide) rfl hS.1 ?_
  refine w_ic ?_
  refine w_cmne (fun c => ?_) (fun c => ?_)
  · refine w_ic ?_
    exact w_iret (fun _ => Or.inl rfl) (h0 (fun e => by have := (se_j_lt (t := T q) (by omega)).1; omega))
  · have k1 : (T q).1 = 1 := by omega
    have wo := hw.2.2.2.2.1 k1
    refine w_aln rfl ?_
    refine w_gl gm rfl (by decide) rfl (hS.2.2.1 k1) ?_
    refine w_lln rfl ?_
    refine w_lcmp ?_
    intro z hz ez
    have qz := rv_cmp ez
    refine w_ifne (fun c2 => ?_) (fun c2 => ?_)
    · refine w_ic ?_
      refine w_iret (fun _ => Or.inl rfl) (h0 (fun e => qz.2 c2 ?_))
      have e2 := (se_j_lt (t := T q) (by omega)).2
      rw [e] at e2
      rw [← hW, e2]
    · refine w_ic ?_
      refine w_goto ?_
      exact w_iret (fun _ => Or.inr rfl) (h1 (se_j_of k1 hi (rv_8i (rv_rs_o i hi) wo (hW.trans (qz.1 c2).symm))))
theorem sr_isSign (hA : sr_A G Mb B n m bt rd sk T) {c : Int} (h : sr_H Mb n m rd sk T S dp iw q o cs M) (hc : c = 40 ∨ c = 41) (h1 : se_s (T q) c → Q (some (.inl 1)) G M) (h0 : ¬ se_s (T q) c → Q (some (.inl 0)) G M) : mj_R mj_tab (d + 1) 203 [.inr (.inr (some m)), .inl c] G M Q := by
  have gm := hA.1.1
  have hS := h.2.2.2.2.1
  have hk := rv_tkc_f (sr_tw hA h.2.2.2.2.2.1).1
  refine ⟨Nat.le_of_ble_eq_true rfl, ?_⟩
  show wz d mt_X12_isSign.2.2.2.2.1 Q mt_X12_isSign.2.2.2.2.1 [some (.inr (.inr (some m))), some (.inl c)] [] G M _ _
  refine w_aln rfl ?_
  refine w_gi gm rfl (by decide) rfl hS.1 ?_
  refine w_ic ?_
  refine w_cmne (fun e => ?_) (fun e => ?_)
  · refine w_ic ?_
    refine w_iret (fun _ => Or.inl rfl) (h0 (fun g => ?_))
    rcases rv_tkc_s g.1 with e2 | e2
    · exact e e2.1
    · have := g.2; exact e2.2 (by omega)
  · have e3 : (T q).1 = 3 := by omega
    refine w_aln rfl ?_
    refine w_gi gm rfl (by decide) rfl (hS.2.2.2.2.1 e3) ?_
    refine w_iln rfl ?_
    refine w_cmne (fun c2 => ?_) (fun c2 => ?_)
    · refine w_ic ?_
      exact w_iret (fun _ => Or.inl rfl) (h0 (fun g => c2 g.2))
    · refine w_ic ?_
      refine w_goto ?_
      exact w_iret (fun _ => Or.inr rfl) (h1 ⟨e3, c2⟩)
theorem sr_code (hA : sr_A G Mb B n m bt rd sk T) (h : sr_H Mb n m rd sk T S dp iw q o cs M) (hl : cs.length < 45) (hx : x = se_k w) (hQ : ∀ M', sr_H Mb n m rd sk T S dp iw q o (cs ++ [(w, z, v)]) M' → Q none G M') : mj_R mj_tab (d + 1) 174 [.inr (.inr (some m)), .inl x, .inl z, .inl v] G M Q := by
  obtain ⟨⟨gm, gbt, grd, gsk⟩, ⟨r1, r8, r52⟩, -⟩ := id hA
  obtain ⟨h1, h2, h3, h4, h5, h6, p1, p2, p3, p4, p5, p6, p7⟩ := id h
  have mr : m ≠ rd := hn_ne gm grd (by decide)
  have rm : rd ≠ m := mr.symm
  have r8' : M.2.2 m 8 = some rd := by rw [h2]; exact r8
  refine ⟨Nat.le_of_ble_eq_true rfl, ?_⟩
  show wz d mt_X12_code.2.2.2.2.1 Q mt_X12_code.2.2.2.2.1 [some (.inr (.inr (some m))), some (.inl x), some (.inl z), some (.inl v)] [] G M _ _
  refine w_aln rfl ?_
  refine w_gr gm rfl (by decide) rfl r8' ?_
  refine w_ic ?_
  refine w_aln rfl ?_
  refine w_gi gm rfl (by decide) rfl p1 ?_
  refine w_mul ⟨by omega, by omega⟩ ?_
  refine w_iln rfl ?_
  refine w_iast grd rfl (by decide) (by omega) (by show 3 * (cs.length : Int) < ((135 : Nat) : Int); omega) ?_
  rw [show (3 * (cs.length : Int)).toNat = 3 * cs.length by omega]
  refine w_aln rfl ?_
  refine w_gr gm rfl (by decide) rfl r8' ?_
  refine w_ic ?_
  refine w_aln rfl ?_
  refine w_gi gm rfl (by decide) rfl ((hn_n (Or.inl mr)).trans p1) ?_
  refine w_mul ⟨by omega, by omega⟩ ?_
  refine w_ic ?_
  refine w_add ⟨by omega, by omega⟩ ?_
  refine w_iln rfl ?_
  refine w_iast grd rfl (by decide) (by omega) (by show 3 * (cs.length : Int) + 1 < ((135 : Nat) : Int); omega) ?_
  rw [show (3 * (cs.length : Int) + 1).toNat = 3 * cs.length + 1 by omega]
  refine w_aln rfl ?_
  refine w_gr gm rfl (by decide) rfl r8' ?_
  refine w_ic ?_
  refine w_aln rfl ?_
  refine w_gi gm rfl (by decide) rfl ((hn_n (Or.inl mr)).trans ((hn_n (Or.inl mr)).trans p1)) ?_
  refine w_mul ⟨by omega, by omega⟩ ?_
  refine w_ic ?_
  refine w_add ⟨by omega, by omega⟩ ?_
  refine w_iln rfl ?_
  refine w_iast grd rfl (by decide) (by omega) (by show 3 * (cs.length : Int) + 2 < ((135 : Nat) : Int); omega) ?_
  rw [show (3 * (cs.length : Int) + 2).toNat = 3 * cs.length + 2 by omega]
  refine w_aln rfl ?_
  refine w_dupr ?_
  refine w_gi gm rfl (by decide) rfl ((hn_n (Or.inl mr)).trans ((hn_n (Or.inl mr)).trans ((hn_n (Or.inl mr)).trans p1))) ?_
  refine w_ic ?_
  refine w_add ⟨by omega, by omega⟩ ?_
  refine w_pi gm rfl (by decide) rfl (fun q => by cases q) ?_
  have em : ∀ k, k ≠ 53 → (mj_p0 (mj_p0 (mj_p0 (mj_p0 M rd (3 * cs.length) x) rd (3 * cs.length + 1) z) rd (3 * cs.length + 2) v) m 53 ((cs.length : Int) + 1)).1 m k = M.1 m k := fun k hk => (hn_n (Or.inr hk)).trans ((hn_n (Or.inl mr)).trans ((hn_n (Or.inl mr)).trans (hn_n (Or.inl mr))))
  have eo : ∀ a, a ≠ m → a ≠ rd → (mj_p0 (mj_p0 (mj_p0 (mj_p0 M rd (3 * cs.length) x) rd (3 * cs.length + 1) z) rd (3 * cs.length + 2) v) m 53 ((cs.length : Int) + 1)).1 a = M.1 a := fun a a1 a2 => (wz_c a1).trans ((wz_c a2).trans ((wz_c a2).trans (wz_c a2)))
  refine w_ret (hQ _ (h.cg (fun a a1 a2 _ => eo a a1 a2) rfl (fun k hk => em k (by omega)) ⟨hn_s.trans (by rw [se_len]; rfl), (em 54 (by decide)).trans p2, (em 55 (by decide)).trans p3, (em 56 (by decide)).trans p4, (em 57 (by decide)).trans p5, fun j hj => ?_, p7.cg (fun j _ => by rw [eo sk (hn_ne gsk gm (by decide)) (hn_ne gsk grd (by decide))])⟩))
  rw [se_len] at hj
  by_cases c : j < cs.length
  · obtain ⟨b1, b2, b3⟩ := p6 j c
    rw [se_gl c]
    exact ⟨(hn_n (Or.inl rm)).trans ((hn_n (Or.inr (by omega))).trans ((hn_n (Or.inr (by omega))).trans ((hn_n (Or.inr (by omega))).trans b1))), (hn_n (Or.inl rm)).trans ((hn_n (Or.inr (by omega))).trans ((hn_n (Or.inr (by omega))).trans ((hn_n (Or.inr (by omega))).trans b2))), (hn_n (Or.inl rm)).trans ((hn_n (Or.inr (by omega))).trans ((hn_n (Or.inr (by omega))).trans ((hn_n (Or.inr (by omega))).trans b3)))⟩
  · have e : j = cs.length := by omega
    subst e
    rw [se_gr]
    exact ⟨(hn_n (Or.inl rm)).trans ((hn_n (Or.inr (by omega))).trans ((hn_n (Or.inr (by omega))).trans (hn_s.trans hx))), (hn_n (Or.inl rm)).trans ((hn_n (Or.inr (by omega))).trans hn_s), (hn_n (Or.inl rm)).trans hn_s⟩
theorem sr_nots {kk0 : Nat} (hA : sr_A G Mb B n m bt rd sk T) (hlen : S.length + kk0 ≤ 45) (hdp : 0 ≤ dp ∧ dp + (kk0 : Int) ≤ 100) (hS : S = [] ∨ ∃ y S', S = y :: S' ∧ y ≠ 10) (hQ : ∀ M', sr_H Mb n m rd sk T S dp iw q o cs2 M' → Q none G M') : ∀ (k : Nat) (cs : (List (Nat × Int × Int))) (M : mj_M) (cb sb : Nat), k ≤ kk0 → cs ++ List.replicate k (14, 0, 0) = cs2 → cs.length + k ≤ 44 → sr_H Mb n m rd sk T (List.replicate k 10 ++ S) (dp + k) iw q o cs M → wz (d + 1) mt_X12_nots.2.2.2.2.1 Q mt_X12_nots.2.2.2.2.1 [some (.inr (.inr (some m)))] [] G M cb sb := by
  obtain ⟨⟨gm, gbt, grd, gsk⟩, ⟨r1, r8, r52⟩, -⟩ := id hA
  intro k
  induction k with
  | zero =>
    intro cs M cb sb hk0 e hl h
    have e : cs ++ [] = cs2 := e
    rw [List.append_nil] at e
    subst e
    have h : sr_H Mb n m rd sk T S (dp + ((0 : Nat) : Int)) iw q o cs M := h
    rw [show dp + ((0 : Nat) : Int) = dp by omega] at h
    obtain ⟨h1, h2, h3, h4, h5, h6, p1, p2, p3, p4, p5, p6, p7⟩ := id h
    refine w_aln rfl ?_
    refine w_gi gm rfl (by decide) rfl p3 ?_
    rcases hS with rfl | ⟨y, S', rfl, hy⟩
    · refine w_ifle (fun _ => ?_) (fun c => absurd c (by decide))
      exact w_ret (hQ M h)
    · have tl : ((y :: S').length : Int) = (S'.length : Int) + 1 := rfl
      refine w_ifle (fun c => by exfalso; omega) (fun c => ?_)
      refine w_aln rfl ?_
      refine w_gr gm rfl (by decide) rfl (by rw [h2]; exact r52) ?_
      refine w_aln rfl ?_
      refine w_gi gm rfl (by decide) rfl p3 ?_
      refine w_ic ?_
      have hb2 : (y :: S').length = S'.length + 1 := rfl
      have hb : (S'.length : Int) + 1 ≤ 45 := by omega
      refine w_sub ⟨by omega, by omega⟩ ?_
      refine w_iald (v := y) gsk rfl (by omega) (by show ((y :: S').length : Int) - 1 < ((45 : Nat) : Int); omega) (by rw [show (((y :: S').length : Int) - 1).toNat = S'.length by omega]; exact p7.1) ?_
      refine w_bp ?_
      refine w_cmne (fun _ => ?_) (fun c => absurd c hy)
      exact w_ret (hQ M h)
  | succ k ih =>
    intro cs M cb sb hk0 e hl h
    have h : sr_H Mb n m rd sk T (10 :: (List.replicate k 10 ++ S)) (dp + ((k + 1 : Nat) : Int)) iw q o cs M := h
    obtain ⟨h1, h2, h3, h4, h5, h6, p1, p2, p3, p4, p5, p6, p7⟩ := id h
    have tl : (((10 : Int) :: (List.replicate k 10 ++ S)).length : Int) = ((List.replicate k (10 : Int) ++ S).length : Int) + 1 := rfl
    have hr : (List.replicate k (10 : Int) ++ S).length = k + S.length := by rw [List.length_append, List.length_replicate]
    refine w_aln rfl ?_
    refine w_gi gm rfl (by decide) rfl p3 ?_
    refine w_ifle (fun c => by exfalso; omega) (fun c => ?_)
    refine w_aln rfl ?_
    refine w_gr gm rfl (by decide) rfl (by rw [h2]; exact r52) ?_
    refine w_aln rfl ?_
    refine w_gi gm rfl (by decide) rfl p3 ?_
    refine w_ic ?_
    have hb : ((List.replicate k (10 : Int) ++ S).length : Int) + 1 ≤ 45 := by omega
    refine w_sub ⟨by omega, by omega⟩ ?_
    refine w_iald (v := 10) gsk rfl (by omega) (by show (((10 : Int) :: (List.replicate k 10 ++ S)).length : Int) - 1 < ((45 : Nat) : Int); omega) (by rw [show ((((10 : Int) :: (List.replicate k 10 ++ S)).length : Int) - 1).toNat = (List.replicate k (10 : Int) ++ S).length by omega]; exact p7.1) ?_
    refine w_bp ?_
    refine w_cmne (fun c => absurd rfl c) (fun _ => ?_)
    refine w_aln rfl ?_
    refine w_dupr ?_
    refine w_gi gm rfl (by decide) rfl p3 ?_
    refine w_ic ?_
    refine w_sub ⟨by omega, by omega⟩ ?_
    refine w_pi gm rfl (by decide) rfl (fun q => by cases q) ?_
    refine w_aln rfl ?_
    refine w_dupr ?_
    refine w_gi gm rfl (by decide) rfl ((hn_n (Or.inr (by decide))).trans p4) ?_
    refine w_ic ?_
    refine w_sub ⟨by omega, by omega⟩ ?_
    refine w_pi gm rfl (by decide) rfl (fun q => by cases q) ?_
    have em : ∀ j, j ≠ 55 → j ≠ 56 → (mj_p0 (mj_p0 M m 55 ((((10 : Int) :: (List.replicate k 10 ++ S)).length : Int) - 1)) m 56 (dp + ((k + 1 : Nat) : Int) - 1)).1 m j = M.1 m j := fun j j1 j2 => (hn_n (Or.inr j2)).trans (hn_n (Or.inr j1))
    have eo : ∀ a, a ≠ m → (mj_p0 (mj_p0 M m 55 ((((10 : Int) :: (List.replicate k 10 ++ S)).length : Int) - 1)) m 56 (dp + ((k + 1 : Nat) : Int) - 1)).1 a = M.1 a := fun a a1 => (wz_c a1).trans (wz_c a1)
    have hH : sr_H Mb n m rd sk T (List.replicate k 10 ++ S) (dp + k) iw q o cs (mj_p0 (mj_p0 M m 55 ((((10 : Int) :: (List.replicate k 10 ++ S)).length : Int) - 1)) m 56 (dp + ((k + 1 : Nat) : Int) - 1)) := h.cg (fun a a1 _ _ => eo a a1) rfl (fun j hj => em j (by omega) (by omega)) ⟨(em 53 (by decide) (by decide)).trans p1, (em 54 (by decide) (by decide)).trans p2, (hn_n (Or.inr (by decide))).trans (hn_s.trans (by omega)), hn_s.trans (by omega), (em 57 (by decide) (by decide)).trans p5, fun j hj => by rw [eo rd (hn_ne grd gm (by decide))]; exact p6 j hj, p7.2.cg (fun j _ => by rw [eo sk (hn_ne gsk gm (by decide))])⟩
    refine w_aln rfl ?_
    refine w_bp ?_
    refine w_ic ?_
    refine w_ic ?_
    refine w_cv (st := []) rfl gm rfl (Nat.le_of_ble_eq_true rfl) (fun kk h => h) (sr_code (d := d) (w := 14) hA hH (by omega) (by decide) (fun M1 s1 => ?_))
    refine w_goto ?_
    refine ih (cs ++ [(14, 0, 0)]) M1 _ _ (by omega) (by rw [List.append_assoc]; exact e) (by rw [se_len]; omega) s1
theorem sr_joins {till : Int} (hA : sr_A G Mb B n m bt rd sk T) (ht : till = 11 ∨ till = 12) (hS : S = [] ∨ ∃ y S', S = y :: S' ∧ y ≠ 11 ∧ ¬ (y = 12 ∧ till = 12)) (hQ : ∀ M', sr_H Mb n m rd sk T S dp iw q o cs2 M' → Q none G M') : ∀ (P : List Int) (cs : (List (Nat × Int × Int))) (M : mj_M) (cb sb : Nat), (∀ y ∈ P, y = 11 ∨ (y = 12 ∧ till = 12)) → cs ++ P.map se_cv = cs2 → cs.length + P.length ≤ 44 → P.length + S.length ≤ 45 → sr_H Mb n m rd sk T (P ++ S) dp iw q o cs M → wz (d + 1) mt_X12_joins.2.2.2.2.1 Q mt_X12_joins.2.2.2.2.1 [some (.inr (.inr (some m))), some (.inl till)] [] G M cb sb := by
  obtain ⟨⟨gm, gbt, grd, gsk⟩, ⟨r1, r8, r52⟩, -⟩ := id hA
  intro P
  induction P with
  | nil =>
    intro cs M cb sb hP e hl hb h
    have e : cs ++ [] = cs2 := e
    rw [List.append_nil] at e
    subst e
    have h : sr_H Mb n m rd sk T S dp iw q o cs M := h
    obtain ⟨h1, h2, h3, h4, h5, h6, p1, p2, p3, p4, p5, p6, p7⟩ := id h
    refine w_aln rfl ?_
    refine w_gi gm rfl (by decide) rfl p3 ?_
    rcases hS with rfl | ⟨y, S', rfl, hy, hy2⟩
    · refine w_ifle (fun _ => ?_) (fun c => absurd c (by decide))
      exact w_ret (hQ M h)
    · have tl : ((y :: S').length : Int) = (S'.length : Int) + 1 := rfl
      have hb : ([] : List Int).length + (y :: S').length ≤ 45 := hb
      have hb2 : (y :: S').length = S'.length + 1 := rfl
      have hb3 : ([] : List Int).length = 0 := rfl
      refine w_ifle (fun c => by exfalso; omega) (fun c => ?_)
      refine w_aln rfl ?_
      refine w_gr gm rfl (by decide) rfl (by rw [h2]; exact r52) ?_
      refine w_aln rfl ?_
      refine w_gi gm rfl (by decide) rfl p3 ?_
      refine w_ic ?_
      refine w_sub ⟨by omega, by omega⟩ ?_
      refine w_iald (v := y) gsk rfl (by omega) (by show ((y :: S').length : Int) - 1 < ((45 : Nat) : Int); omega) (by rw [show (((y :: S').length : Int) - 1).toNat = S'.length by omega]; exact p7.1) ?_
      refine w_bp ?_
      refine w_cmeq (fun c => absurd c hy) (fun _ => ?_)
      refine w_aln rfl ?_
      refine w_gr gm rfl (by decide) rfl (by rw [h2]; exact r52) ?_
      refine w_aln rfl ?_
      refine w_gi gm rfl (by decide) rfl p3 ?_
      refine w_ic ?_
      refine w_sub ⟨by omega, by omega⟩ ?_
      refine w_iald (v := y) gsk rfl (by omega) (by show ((y :: S').length : Int) - 1 < ((45 : Nat) : Int); omega) (by rw [show (((y :: S').length : Int) - 1).toNat = S'.length by omega]; exact p7.1) ?_
      refine w_bp ?_
      refine w_cmne (fun _ => ?_) (fun c => ?_)
      · exact w_ret (hQ M h)
      · refine w_iln rfl ?_
        refine w_bp ?_
        refine w_cmne (fun _ => ?_) (fun c2 => absurd ⟨c, c2⟩ hy2)
        exact w_ret (hQ M h)
  | cons y P ih =>
    intro cs M cb sb hP e hl hb h
    have h : sr_H Mb n m rd sk T (y :: (P ++ S)) dp iw q o cs M := h
    have hy := hP y List.mem_cons_self
    obtain ⟨h1, h2, h3, h4, h5, h6, p1, p2, p3, p4, p5, p6, p7⟩ := id h
    have tl : ((y :: (P ++ S)).length : Int) = ((P ++ S).length : Int) + 1 := rfl
    have hr : (P ++ S).length = P.length + S.length := List.length_append
    have hb2 : (y :: P).length = P.length + 1 := rfl
    have pop : ∀ cb sb, wz (d + 1) mt_X12_joins.2.2.2.2.1 Q (mt_X12_joins.2.2.2.2.1.drop 24) [some (.inr (.inr (some m))), some (.inl till)] [] G M cb sb := fun cb sb => by
      refine w_aln rfl ?_
      refine w_dupr ?_
      refine w_gi gm rfl (by decide) rfl p3 ?_
      refine w_ic ?_
      refine w_sub ⟨by omega, by omega⟩ ?_
      refine w_pi gm rfl (by decide) rfl (fun q => by cases q) ?_
      have em : ∀ j, j ≠ 55 → (mj_p0 M m 55 (((y :: (P ++ S)).length : Int) - 1)).1 m j = M.1 m j := fun j j1 => hn_n (Or.inr j1)
      have eo : ∀ a, a ≠ m → (mj_p0 M m 55 (((y :: (P ++ S)).length : Int) - 1)).1 a = M.1 a := fun a a1 => wz_c a1
      have hH : sr_H Mb n m rd sk T (P ++ S) dp iw q o cs (mj_p0 M m 55 (((y :: (P ++ S)).length : Int) - 1)) := h.cg (fun a a1 _ _ => eo a a1) rfl (fun j hj => em j (by omega)) ⟨(em 53 (by decide)).trans p1, (em 54 (by decide)).trans p2, hn_s.trans (by omega), (em 56 (by decide)).trans p4, (em 57 (by decide)).trans p5, fun j hj => by rw [eo rd (hn_ne grd gm (by decide))]; exact p6 j hj, p7.2.cg (fun j _ => by rw [eo sk (hn_ne gsk gm (by decide))])⟩
      refine w_aln rfl ?_
      refine w_aln rfl ?_
      refine w_gr gm rfl (by decide) rfl (by show M.2.2 m 52 = _; rw [h2]; exact r52) ?_
      refine w_aln rfl ?_
      refine w_gi gm rfl (by decide) rfl hn_s ?_
      refine w_iald (v := y) gsk rfl (by omega) (by show ((y :: (P ++ S)).length : Int) - 1 < ((45 : Nat) : Int); omega) (by rw [show (((y :: (P ++ S)).length : Int) - 1).toNat = (P ++ S).length by omega, eo sk (hn_ne gsk gm (by decide))]; exact p7.1) ?_
      refine w_ic ?_
      refine w_ic ?_
      refine w_cv (st := []) rfl gm rfl (Nat.le_of_ble_eq_true rfl) (fun kk h => h) (sr_code (d := d) (w := (se_cv y).1) hA hH (by omega) ?_ (fun M1 s1 => ?_))
      · rcases hy with rfl | ⟨rfl, -⟩
        · decide
        · decide
      · refine w_goto ?_
        refine ih (cs ++ [se_cv y]) M1 _ _ (fun z hz => hP z (List.mem_cons_of_mem _ hz)) (by rw [List.append_assoc]; exact e) (by rw [se_len]; omega) (by omega) s1
    refine w_aln rfl ?_
    refine w_gi gm rfl (by decide) rfl p3 ?_
    refine w_ifle (fun c => by exfalso; omega) (fun c => ?_)
    refine w_aln rfl ?_
    refine w_gr gm rfl (by decide) rfl (by rw [h2]; exact r52) ?_
    refine w_aln rfl ?_
    refine w_gi gm rfl (by decide) rfl p3 ?_
    refine w_ic ?_
    refine w_sub ⟨by omega, by omega⟩ ?_
    refine w_iald (v := y) gsk rfl (by omega) (by show ((y :: (P ++ S)).length : Int) - 1 < ((45 : Nat) : Int); omega) (by rw [show (((y :: (P ++ S)).length : Int) - 1).toNat = (P ++ S).length by omega]; exact p7.1) ?_
    refine w_bp ?_
    refine w_cmeq (fun _ => pop _ _) (fun c11 => ?_)
    have hy12 : y = 12 ∧ till = 12 := hy.resolve_left c11
    refine w_aln rfl ?_
    refine w_gr gm rfl (by decide) rfl (by rw [h2]; exact r52) ?_
    refine w_aln rfl ?_
    refine w_gi gm rfl (by decide) rfl p3 ?_
    refine w_ic ?_
    refine w_sub ⟨by omega, by omega⟩ ?_
    refine w_iald (v := y) gsk rfl (by omega) (by show ((y :: (P ++ S)).length : Int) - 1 < ((45 : Nat) : Int); omega) (by rw [show (((y :: (P ++ S)).length : Int) - 1).toNat = (P ++ S).length by omega]; exact p7.1) ?_
    refine w_bp ?_
    refine w_cmne (fun c => absurd hy12.1 c) (fun _ => ?_)
    refine w_iln rfl ?_
    refine w_bp ?_
    refine w_cmne (fun c => absurd hy12.2 c) (fun _ => ?_)
    exact pop _ _
theorem sr_leafOf (hA : sr_A G Mb B n m bt rd sk T) (h : sr_H Mb n m rd sk T S dp iw q o cs M) (hQ : ∀ z, ((15 ≤ se_j (T q) ∧ se_j (T q) < 24) → z = (se_j (T q) : Int) - 15) → (¬ (15 ≤ se_j (T q) ∧ se_j (T q) < 24) → z = -1) → Q (some (.inl z)) G M) : mj_R mj_tab (d + 2) 208 [.inr (.inr (some m))] G M Q := by
  have gm := hA.1.1
  have j24 := se_j_le (T q)
  refine ⟨Nat.le_of_ble_eq_true rfl, ?_⟩
  show wz (d + 1) mt_X12_leafOf.2.2.2.2.1 Q mt_X12_leafOf.2.2.2.2.1 [some (.inr (.inr (some m)))] [] G M _ _
  refine w_aln rfl ?_
  refine w_l2 ?_
  refine w_cv (st := []) rfl gm rfl (Nat.le_of_ble_eq_true rfl) (fun kk h => h) (sr_isWord (d := d) (i := 15) hA h (by decide) (by decide +kernel) (fun e => w_ifeq (fun c => absurd c (by decide)) (fun _ => w_ic (w_goto (w_iret (fun q => by cases q) (hQ 0 (fun _ => by omega) (fun c => by exfalso; omega)))))) (fun n15 => w_ifeq (fun _ => ?_) (fun c => absurd rfl c)))
  refine w_aln rfl ?_
  refine w_l2 ?_
  refine w_cv (st := []) rfl gm rfl (Nat.le_of_ble_eq_true rfl) (fun kk h => h) (sr_isWord (d := d) (i := 16) hA h (by decide) (by decide +kernel) (fun e => w_ifeq (fun c => absurd c (by decide)) (fun _ => w_ic (w_goto (w_iret (fun q => by cases q) (hQ 1 (fun _ => by omega) (fun c => by exfalso; omega)))))) (fun n16 => w_ifeq (fun _ => ?_) (fun c => absurd rfl c)))
  refine w_aln rfl ?_
  refine w_l2 ?_
  refine w_cv (st := []) rfl gm rfl (Nat.le_of_ble_eq_true rfl) (fun kk h => h) (sr_isWord (d := d) (i := 17) hA h (by decide) (by decide +kernel) (fun e => w_ifeq (fun c => absurd c (by decide)) (fun _ => w_ic (w_goto (w_iret (fun q => by cases q) (hQ 2 (fun _ => by omega) (fun c => by exfalso; omega)))))) (fun n17 => w_ifeq (fun _ => ?_) (fun c => absurd rfl c)))
  refine w_aln rfl ?_
  refine w_l2 ?_
  refine w_cv (st := []) rfl gm rfl (Nat.le_of_ble_eq_true rfl) (fun kk h => h) (sr_isWord (d := d) (i := 18) hA h (by decide) (by decide +kernel) (fun e => w_ifeq (fun c => absurd c (by decide)) (fun _ => w_ic (w_goto (w_iret (fun q => by cases q) (hQ 3 (fun _ => by omega) (fun c => by exfalso; omega)))))) (fun n18 => w_ifeq (fun _ => ?_) (fun c => absurd rfl c)))
  refine w_aln rfl ?_
  refine w_l2 ?_
  refine w_cv (st := []) rfl gm rfl (Nat.le_of_ble_eq_true rfl) (fun kk h => h) (sr_isWord (d := d) (i := 19) hA h (by decide) (by decide +kernel) (fun e => w_ifeq (fun c => absurd c (by decide)) (fun _ => w_ic (w_goto (w_iret (fun q => by cases q) (hQ 4 (fun _ => by omega) (fun c => by exfalso; omega)))))) (fun n19 => w_ifeq (fun _ => ?_) (fun c => absurd rfl c)))
  refine w_aln rfl ?_
  refine w_l2 ?_
  refine w_cv (st := []) rfl gm rfl (Nat.le_of_ble_eq_true rfl) (fun kk h => h) (sr_isWord (d := d) (i := 20) hA h (by decide) (by decide +kernel) (fun e => w_ifeq (fun c => absurd c (by decide)) (fun _ => w_ic (w_goto (w_iret (fun q => by cases q) (hQ 5 (fun _ => by omega) (fun c => by exfalso; omega)))))) (fun n20 => w_ifeq (fun _ => ?_) (fun c => absurd rfl c)))
  refine w_aln rfl ?_
  refine w_l2 ?_
  refine w_cv (st := []) rfl gm rfl (Nat.le_of_ble_eq_true rfl) (fun kk h => h) (sr_isWord (d := d) (i := 21) hA h (by decide) (by decide +kernel) (fun e => w_ifeq (fun c => absurd c (by decide)) (fun _ => w_bp (w_goto (w_iret (fun q => by cases q) (hQ 6 (fun _ => by omega) (fun c => by exfalso; omega)))))) (fun n21 => w_ifeq (fun _ => ?_) (fun c => absurd rfl c)))
  refine w_aln rfl ?_
  refine w_l2 ?_
  refine w_cv (st := []) rfl gm rfl (Nat.le_of_ble_eq_true rfl) (fun kk h => h) (sr_isWord (d := d) (i := 22) hA h (by decide) (by decide +kernel) (fun e => w_ifeq (fun c => absurd c (by decide)) (fun _ => w_bp (w_goto (w_iret (fun q => by cases q) (hQ 7 (fun _ => by omega) (fun c => by exfalso; omega)))))) (fun n22 => w_ifeq (fun _ => ?_) (fun c => absurd rfl c)))
  refine w_aln rfl ?_
  refine w_l2 ?_
  refine w_cv (st := []) rfl gm rfl (Nat.le_of_ble_eq_true rfl) (fun kk h => h) (sr_isWord (d := d) (i := 23) hA h (by decide) (by decide +kernel) (fun e => w_ifeq (fun c => absurd c (by decide)) (fun _ => w_bp (w_goto (w_iret (fun q => by cases q) (hQ 8 (fun _ => by omega) (fun c => by exfalso; omega)))))) (fun n23 => w_ifeq (fun _ => ?_) (fun c => absurd rfl c)))
  refine w_ic ?_
  exact w_iret (fun q => by cases q) (hQ (-1) (fun c => by exfalso; omega) (fun _ => rfl))
end UE
