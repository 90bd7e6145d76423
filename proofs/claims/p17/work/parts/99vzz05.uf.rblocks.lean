/-! ===== the reference reads a SENTENCE: operand, behind ===== -/
def sr_n10 (S : List Int) : Prop := S = [] ∨ ∃ y S', S = y :: S' ∧ y ≠ 10
/-- a stack on which nothing waits to be joined or turned -/
def sr_nb (S : List Int) : Prop := S = [] ∨ ∃ S', S = 13 :: S'
section UF
variable {G : mj_G} {Mb M M' : mj_M} {B : Nat → Int} {n m bt rd sk : Nat} {T : Nat → (Nat × Nat × Int × List Int × Nat)} {Q : mj_P} {d q : Nat} {cs cs2 : (List (Nat × Int × Int))} {o o2 w i : Nat} {z v x dp dp2 iw iw2 : Int} {S S2 P : List Int}
theorem sr_nb.j12 (h : sr_nb S) : S = [] ∨ ∃ y S', S = y :: S' ∧ y ≠ 11 ∧ ¬ (y = 12 ∧ (12 : Int) = 12) := by
  rcases h with h | ⟨S', h⟩
  · exact Or.inl h
  · exact Or.inr ⟨13, S', h, by decide, by decide⟩
theorem sr_nb.n10 (h : sr_nb S) : sr_n10 S := by
  rcases h with h | ⟨S', h⟩
  · exact Or.inl h
  · exact Or.inr ⟨13, S', h, by decide⟩
/-- behind, when its nots are done and the token is and -/
theorem sr_bAnd {R X : List Int} (hA : sr_A G Mb B n m bt rd sk T) (hX : ∀ y ∈ X, y = (11 : Int)) (hR : R = [] ∨ ∃ y S', R = y :: S' ∧ y ≠ 11 ∧ ¬ (y = 12 ∧ (11 : Int) = 12)) (h : sr_H Mb n m rd sk T (X ++ R) dp iw q o cs M) (hj : se_j (T q) = 13) (hl : cs.length + X.length ≤ 44) (hb : X.length + R.length ≤ 44) (hQ : ∀ M', sr_H Mb n m rd sk T (11 :: R) dp 0 (rv_x T q) o (cs ++ X.map se_cv) M' → Q (some (.inl 1)) G M') (cb sb : Nat) : wz (d + 2) mt_X12_behind.2.2.2.2.1 Q (mt_X12_behind.2.2.2.2.1.drop 2) [some (.inr (.inr (some m)))] [] G M cb sb := by
  obtain ⟨⟨gm, gbt, grd, gsk⟩, ⟨r1, r8, r52⟩, -⟩ := id hA
  have k1 := (se_j_lt (t := T q) (by omega)).1
  have ins : ∀ (M1 : mj_M) cb sb, sr_H Mb n m rd sk T R dp iw q o (cs ++ X.map se_cv) M1 → wz (d + 2) mt_X12_behind.2.2.2.2.1 Q (mt_X12_behind.2.2.2.2.1.drop 19) [some (.inr (.inr (some m)))] [] G M1 cb sb := fun M1 cb sb h1 => by
    obtain ⟨g1, g2, g3, g4, g5, g6, p1, p2, p3, p4, p5, p6, p7⟩ := id h1
    refine w_aln rfl ?_
    refine w_gr gm rfl (by decide) rfl (by rw [g2]; exact r52) ?_
    refine w_aln rfl ?_
    refine w_gi gm rfl (by decide) rfl p3 ?_
    refine w_aln rfl ?_
    refine w_l2 ?_
    refine w_cv (st := [.inl (R.length : Int), .inr (.inr (some sk))]) rfl gm rfl (Nat.le_of_ble_eq_true rfl) (fun kk h => h) (sr_isWord (d := d + 1) (i := 13) hA h1 (by decide) (by decide +kernel) (fun _ => ?_) (fun c => absurd hj c))
    refine w_ifeq (fun c => absurd c (by decide)) (fun _ => ?_)
    refine w_bp ?_
    refine w_goto ?_
    refine w_iast gsk rfl (by decide) (by omega) (by show (R.length : Int) < ((45 : Nat) : Int); omega) ?_
    rw [Int.toNat_natCast]
    refine w_aln rfl ?_
    refine w_dupr ?_
    refine w_gi gm rfl (by decide) rfl ((hn_n (Or.inl (hn_ne gm gsk (by decide)))).trans p3) ?_
    refine w_ic ?_
    refine w_add ⟨by omega, by omega⟩ ?_
    refine w_pi gm rfl (by decide) rfl (fun q => by cases q) ?_
    refine w_aln rfl ?_
    refine w_ic ?_
    refine w_pi gm rfl (by decide) rfl (fun q => by cases q) ?_
    have em : ∀ j, j ≠ 55 → j ≠ 57 → (mj_p0 (mj_p0 (mj_p0 M1 sk R.length 11) m 55 ((R.length : Int) + 1)) m 57 0).1 m j = M1.1 m j := fun j j1 j2 => (hn_n (Or.inr j2)).trans ((hn_n (Or.inr j1)).trans (hn_n (Or.inl (hn_ne gm gsk (by decide)))))
    have eo : ∀ a, a ≠ m → a ≠ sk → (mj_p0 (mj_p0 (mj_p0 M1 sk R.length 11) m 55 ((R.length : Int) + 1)) m 57 0).1 a = M1.1 a := fun a a1 a2 => (wz_c a1).trans ((wz_c a1).trans (wz_c a2))
    have es : (mj_p0 (mj_p0 (mj_p0 M1 sk R.length 11) m 55 ((R.length : Int) + 1)) m 57 0).1 sk = (mj_p0 M1 sk R.length 11).1 sk := (wz_c (hn_ne gsk gm (by decide))).trans (wz_c (hn_ne gsk gm (by decide)))
    have hH : sr_H Mb n m rd sk T (11 :: R) dp 0 q o (cs ++ X.map se_cv) (mj_p0 (mj_p0 (mj_p0 M1 sk R.length 11) m 55 ((R.length : Int) + 1)) m 57 0) := h1.cg (fun a a1 _ a3 => eo a a1 a3) rfl (fun j hj => em j (by omega) (by omega)) ⟨(em 53 (by decide) (by decide)).trans p1, (em 54 (by decide) (by decide)).trans p2, (hn_n (Or.inr (by decide))).trans (hn_s.trans rfl), (em 56 (by decide) (by decide)).trans p4, hn_s, fun j hj => by rw [eo rd (hn_ne grd gm (by decide)) (hn_ne grd gsk (by decide))]; exact p6 j hj, by rw [es]; exact hn_s, p7.cg (fun j hj => by rw [es]; exact hn_n (Or.inr (by omega)))⟩
    refine w_aln rfl ?_
    refine w_cv (st := []) rfl gm rfl (Nat.le_of_ble_eq_true rfl) (fun kk h => h) (sr_next (d := d) hA hH (by omega) (by omega) (fun M2 s2 => ?_))
    refine w_ic ?_
    exact w_iret (fun _ => Or.inr rfl) (hQ M2 s2)
  refine w_aln rfl ?_
  refine w_l2 ?_
  refine w_cv (st := []) rfl gm rfl (Nat.le_of_ble_eq_true rfl) (fun kk h => h) (sr_isWord (d := d + 1) (i := 13) hA h (by decide) (by decide +kernel) (fun _ => ?_) (fun c => absurd hj c))
  refine w_ifne (fun _ => ?_) (fun c => absurd c (by decide))
  refine w_aln rfl ?_
  refine w_aln rfl ?_
  refine w_l2 ?_
  refine w_cv (st := [.inr (.inr (some m))]) rfl gm rfl (Nat.le_of_ble_eq_true rfl) (fun kk h => h) (sr_isWord (d := d + 1) (i := 13) hA h (by decide) (by decide +kernel) (fun _ => ?_) (fun c => absurd hj c))
  refine w_ifeq (fun c => absurd c (by decide)) (fun _ => ?_)
  refine w_bp ?_
  refine w_goto ?_
  refine w_cv (st := []) rfl gm rfl (Nat.le_of_ble_eq_true rfl) (fun kk h => h) ⟨Nat.le_of_ble_eq_true rfl, ?_⟩
  show wz (d + 1) mt_X12_joins.2.2.2.2.1 _ mt_X12_joins.2.2.2.2.1 [some (.inr (.inr (some m))), some (.inl 11)] [] _ _ _ _
  exact sr_joins (d := d) hA (Or.inl rfl) hR (fun M1 h1 => ins M1 _ _ h1) X cs M _ _ (fun y hy => Or.inl (hX y hy)) rfl (by omega) (by omega) h
/-- .. and the token is or -/
theorem sr_bOr (hA : sr_A G Mb B n m bt rd sk T) (hP : ∀ y ∈ P, y = (11 : Int) ∨ y = 12) (hS : sr_nb S) (h : sr_H Mb n m rd sk T (P ++ S) dp iw q o cs M) (hj : se_j (T q) = 12) (hl : cs.length + P.length ≤ 44) (hb : P.length + S.length ≤ 44) (hQ : ∀ M', sr_H Mb n m rd sk T (12 :: S) dp 0 (rv_x T q) o (cs ++ P.map se_cv) M' → Q (some (.inl 1)) G M') (cb sb : Nat) : wz (d + 2) mt_X12_behind.2.2.2.2.1 Q (mt_X12_behind.2.2.2.2.1.drop 2) [some (.inr (.inr (some m)))] [] G M cb sb := by
  obtain ⟨⟨gm, gbt, grd, gsk⟩, ⟨r1, r8, r52⟩, -⟩ := id hA
  have k1 := (se_j_lt (t := T q) (by omega)).1
  have ins : ∀ (M1 : mj_M) cb sb, sr_H Mb n m rd sk T S dp iw q o (cs ++ P.map se_cv) M1 → wz (d + 2) mt_X12_behind.2.2.2.2.1 Q (mt_X12_behind.2.2.2.2.1.drop 19) [some (.inr (.inr (some m)))] [] G M1 cb sb := fun M1 cb sb h1 => by
    obtain ⟨g1, g2, g3, g4, g5, g6, p1, p2, p3, p4, p5, p6, p7⟩ := id h1
    refine w_aln rfl ?_
    refine w_gr gm rfl (by decide) rfl (by rw [g2]; exact r52) ?_
    refine w_aln rfl ?_
    refine w_gi gm rfl (by decide) rfl p3 ?_
    refine w_aln rfl ?_
    refine w_l2 ?_
    refine w_cv (st := [.inl (S.length : Int), .inr (.inr (some sk))]) rfl gm rfl (Nat.le_of_ble_eq_true rfl) (fun kk h => h) (sr_isWord (d := d + 1) (i := 13) hA h1 (by decide) (by decide +kernel) (fun c => by exfalso; omega) (fun _ => ?_))
    refine w_ifeq (fun _ => ?_) (fun c => absurd rfl c)
    refine w_bp ?_
    refine w_iast gsk rfl (by decide) (by omega) (by show (S.length : Int) < ((45 : Nat) : Int); omega) ?_
    rw [Int.toNat_natCast]
    refine w_aln rfl ?_
    refine w_dupr ?_
    refine w_gi gm rfl (by decide) rfl ((hn_n (Or.inl (hn_ne gm gsk (by decide)))).trans p3) ?_
    refine w_ic ?_
    refine w_add ⟨by omega, by omega⟩ ?_
    refine w_pi gm rfl (by decide) rfl (fun q => by cases q) ?_
    refine w_aln rfl ?_
    refine w_ic ?_
    refine w_pi gm rfl (by decide) rfl (fun q => by cases q) ?_
    have em : ∀ j, j ≠ 55 → j ≠ 57 → (mj_p0 (mj_p0 (mj_p0 M1 sk S.length 12) m 55 ((S.length : Int) + 1)) m 57 0).1 m j = M1.1 m j := fun j j1 j2 => (hn_n (Or.inr j2)).trans ((hn_n (Or.inr j1)).trans (hn_n (Or.inl (hn_ne gm gsk (by decide)))))
    have eo : ∀ a, a ≠ m → a ≠ sk → (mj_p0 (mj_p0 (mj_p0 M1 sk S.length 12) m 55 ((S.length : Int) + 1)) m 57 0).1 a = M1.1 a := fun a a1 a2 => (wz_c a1).trans ((wz_c a1).trans (wz_c a2))
    have es : (mj_p0 (mj_p0 (mj_p0 M1 sk S.length 12) m 55 ((S.length : Int) + 1)) m 57 0).1 sk = (mj_p0 M1 sk S.length 12).1 sk := (wz_c (hn_ne gsk gm (by decide))).trans (wz_c (hn_ne gsk gm (by decide)))
    have hH : sr_H Mb n m rd sk T (12 :: S) dp 0 q o (cs ++ P.map se_cv) (mj_p0 (mj_p0 (mj_p0 M1 sk S.length 12) m 55 ((S.length : Int) + 1)) m 57 0) := h1.cg (fun a a1 _ a3 => eo a a1 a3) rfl (fun j hj => em j (by omega) (by omega)) ⟨(em 53 (by decide) (by decide)).trans p1, (em 54 (by decide) (by decide)).trans p2, (hn_n (Or.inr (by decide))).trans (hn_s.trans rfl), (em 56 (by decide) (by decide)).trans p4, hn_s, fun j hj => by rw [eo rd (hn_ne grd gm (by decide)) (hn_ne grd gsk (by decide))]; exact p6 j hj, by rw [es]; exact hn_s, p7.cg (fun j hj => by rw [es]; exact hn_n (Or.inr (by omega)))⟩
    refine w_aln rfl ?_
    refine w_cv (st := []) rfl gm rfl (Nat.le_of_ble_eq_true rfl) (fun kk h => h) (sr_next (d := d) hA hH (by omega) (by omega) (fun M2 s2 => ?_))
    refine w_ic ?_
    exact w_iret (fun _ => Or.inr rfl) (hQ M2 s2)
  refine w_aln rfl ?_
  refine w_l2 ?_
  refine w_cv (st := []) rfl gm rfl (Nat.le_of_ble_eq_true rfl) (fun kk h => h) (sr_isWord (d := d + 1) (i := 13) hA h (by decide) (by decide +kernel) (fun c => by exfalso; omega) (fun _ => ?_))
  refine w_ifne (fun c => absurd rfl c) (fun _ => ?_)
  refine w_aln rfl ?_
  refine w_l2 ?_
  refine w_cv (st := []) rfl gm rfl (Nat.le_of_ble_eq_true rfl) (fun kk h => h) (sr_isWord (d := d + 1) (i := 12) hA h (by decide) (by decide +kernel) (fun _ => ?_) (fun c => absurd hj c))
  refine w_ifeq (fun c => absurd c (by decide)) (fun _ => ?_)
  refine w_aln rfl ?_
  refine w_aln rfl ?_
  refine w_l2 ?_
  refine w_cv (st := [.inr (.inr (some m))]) rfl gm rfl (Nat.le_of_ble_eq_true rfl) (fun kk h => h) (sr_isWord (d := d + 1) (i := 13) hA h (by decide) (by decide +kernel) (fun c => by exfalso; omega) (fun _ => ?_))
  refine w_ifeq (fun _ => ?_) (fun c => absurd rfl c)
  refine w_bp ?_
  refine w_cv (st := []) rfl gm rfl (Nat.le_of_ble_eq_true rfl) (fun kk h => h) ⟨Nat.le_of_ble_eq_true rfl, ?_⟩
  show wz (d + 1) mt_X12_joins.2.2.2.2.1 _ mt_X12_joins.2.2.2.2.1 [some (.inr (.inr (some m))), some (.inl 12)] [] _ _ _ _
  exact sr_joins (d := d) hA (Or.inr rfl) hS.j12 (fun M1 h1 => ins M1 _ _ h1) P cs M _ _ (fun y hy => (hP y hy).imp id (fun e => ⟨e, rfl⟩)) rfl (by omega) (by omega) h
/-- .. and it is neither: a bracket is closed, or it can't come -/
theorem sr_bElse (hA : sr_A G Mb B n m bt rd sk T) (hP : ∀ y ∈ P, y = (11 : Int) ∨ y = 12) (hS : sr_nb S) (h : sr_H Mb n m rd sk T (P ++ S) dp iw q o cs M) (hj : ¬ se_j (T q) = 13) (hj2 : ¬ se_j (T q) = 12) (hl : cs.length + P.length ≤ 44) (hb : P.length + S.length ≤ 44) (hdp : 0 ≤ dp ∧ dp ≤ 100) (hQ : ∀ S' M', S = 13 :: S' → se_s (T q) 41 → sr_H Mb n m rd sk T S' (dp - 1) iw (rv_x T q) o (cs ++ P.map se_cv) M' → Q (some (.inl 1)) G M') (hF : (S = [] ∨ ¬ se_s (T q) 41) → ∀ M', sr_F Mb m rd sk 1 (T q).2.1 M' → Q (some (.inl 0)) G M') (cb sb : Nat) : wz (d + 2) mt_X12_behind.2.2.2.2.1 Q (mt_X12_behind.2.2.2.2.1.drop 2) [some (.inr (.inr (some m)))] [] G M cb sb := by
  obtain ⟨⟨gm, gbt, grd, gsk⟩, ⟨r1, r8, r52⟩, -⟩ := id hA
  have fin : ∀ (M1 : mj_M) cb sb, sr_H Mb n m rd sk T S dp iw q o (cs ++ P.map se_cv) M1 → wz (d + 2) mt_X12_behind.2.2.2.2.1 Q (mt_X12_behind.2.2.2.2.1.drop 47) [some (.inr (.inr (some m)))] [] G M1 cb sb := fun M1 cb sb h1 => by
    obtain ⟨g1, g2, g3, g4, g5, g6, p1, p2, p3, p4, p5, p6, p7⟩ := id h1
    have no : (S = [] ∨ ¬ se_s (T q) 41) → ∀ cb sb, wz (d + 2) mt_X12_behind.2.2.2.2.1 Q (mt_X12_behind.2.2.2.2.1.drop 54) [some (.inr (.inr (some m)))] [] G M1 cb sb := fun c cb sb => by
      refine w_aln rfl ?_
      refine w_ic ?_
      refine w_cv (st := []) rfl gm rfl (Nat.le_of_ble_eq_true rfl) (fun kk h => h) (sr_bad (d := d + 1) hA h1 (fun M' F => ?_))
      exact w_iret (fun _ => Or.inl rfl) (hF c M' F)
    refine w_aln rfl ?_
    refine w_bp ?_
    refine w_cv (st := []) rfl gm rfl (Nat.le_of_ble_eq_true rfl) (fun kk h => h) (sr_isSign (d := d + 1) hA h1 (Or.inr rfl) (fun c41 => ?_) (fun c41 => ?_))
    · refine w_ifeq (fun c => absurd c (by decide)) (fun _ => ?_)
      refine w_aln rfl ?_
      refine w_gi gm rfl (by decide) rfl p3 ?_
      rcases hS with rfl | ⟨S', rfl⟩
      · refine w_ifne (fun c => absurd rfl c) (fun _ => ?_)
        exact no (Or.inl rfl) _ _
      · have tl : (((13 : Int) :: S').length : Int) = (S'.length : Int) + 1 := rfl
        have tl2 : ((13 : Int) :: S').length = S'.length + 1 := rfl
        refine w_ifne (fun _ => ?_) (fun c => by exfalso; omega)
        refine w_aln rfl ?_
        refine w_dupr ?_
        refine w_gi gm rfl (by decide) rfl p3 ?_
        refine w_ic ?_
        refine w_sub ⟨by omega, by omega⟩ ?_
        refine w_pi gm rfl (by decide) rfl (fun q => by cases q) ?_
        refine w_aln rfl ?_
        refine w_dupr ?_
        refine w_gi gm rfl (by decide) rfl ((hn_n (Or.inr (by decide))).trans p4) ?_
        refine w_ic ?_
        refine w_sub ⟨by omega, by omega⟩ ?_
        refine w_pi gm rfl (by decide) rfl (fun q => by cases q) ?_
        have em : ∀ j, j ≠ 55 → j ≠ 56 → (mj_p0 (mj_p0 M1 m 55 ((((13 : Int) :: S').length : Int) - 1)) m 56 (dp - 1)).1 m j = M1.1 m j := fun j j1 j2 => (hn_n (Or.inr j2)).trans (hn_n (Or.inr j1))
        have eo : ∀ a, a ≠ m → (mj_p0 (mj_p0 M1 m 55 ((((13 : Int) :: S').length : Int) - 1)) m 56 (dp - 1)).1 a = M1.1 a := fun a a1 => (wz_c a1).trans (wz_c a1)
        have hH : sr_H Mb n m rd sk T S' (dp - 1) iw q o (cs ++ P.map se_cv) (mj_p0 (mj_p0 M1 m 55 ((((13 : Int) :: S').length : Int) - 1)) m 56 (dp - 1)) := h1.cg (fun a a1 _ _ => eo a a1) rfl (fun j hj => em j (by omega) (by omega)) ⟨(em 53 (by decide) (by decide)).trans p1, (em 54 (by decide) (by decide)).trans p2, (hn_n (Or.inr (by decide))).trans (hn_s.trans (by omega)), hn_s, (em 57 (by decide) (by decide)).trans p5, fun j hj => by rw [eo rd (hn_ne grd gm (by decide))]; exact p6 j hj, p7.2.cg (fun j _ => by rw [eo sk (hn_ne gsk gm (by decide))])⟩
        refine w_aln rfl ?_
        refine w_cv (st := []) rfl gm rfl (Nat.le_of_ble_eq_true rfl) (fun kk h => h) (sr_next (d := d) hA hH (by rw [c41.1]; decide) (by rw [c41.1]; decide) (fun M2 s2 => ?_))
        refine w_ic ?_
        exact w_iret (fun _ => Or.inr rfl) (hQ S' M2 rfl c41 s2)
    · refine w_ifeq (fun _ => ?_) (fun c => absurd rfl c)
      exact no (Or.inr c41) _ _
  refine w_aln rfl ?_
  refine w_l2 ?_
  refine w_cv (st := []) rfl gm rfl (Nat.le_of_ble_eq_true rfl) (fun kk h => h) (sr_isWord (d := d + 1) (i := 13) hA h (by decide) (by decide +kernel) (fun c => absurd c hj) (fun _ => ?_))
  refine w_ifne (fun c => absurd rfl c) (fun _ => ?_)
  refine w_aln rfl ?_
  refine w_l2 ?_
  refine w_cv (st := []) rfl gm rfl (Nat.le_of_ble_eq_true rfl) (fun kk h => h) (sr_isWord (d := d + 1) (i := 12) hA h (by decide) (by decide +kernel) (fun c => absurd c hj2) (fun _ => ?_))
  refine w_ifeq (fun _ => ?_) (fun c => absurd rfl c)
  refine w_aln rfl ?_
  refine w_bp ?_
  refine w_cv (st := []) rfl gm rfl (Nat.le_of_ble_eq_true rfl) (fun kk h => h) ⟨Nat.le_of_ble_eq_true rfl, ?_⟩
  show wz (d + 1) mt_X12_joins.2.2.2.2.1 _ mt_X12_joins.2.2.2.2.1 [some (.inr (.inr (some m))), some (.inl 12)] [] _ _ _ _
  exact sr_joins (d := d) hA (Or.inr rfl) hS.j12 (fun M1 h1 => fin M1 _ _ h1) P cs M _ _ (fun y hy => (hP y hy).imp id (fun e => ⟨e, rfl⟩)) rfl (by omega) (by omega) h
/-- a ONE is begun -/
theorem sr_operand {dn : Nat} (hA : sr_A G Mb B n m bt rd sk T) (h : sr_H Mb n m rd sk T S (dn : Int) 0 q o cs M) (ho : o ≤ 20) (hdn : dn ≤ 9) (hl : cs.length ≤ 40) (hb : S.length ≤ 40)
    (hF : ∀ f a, (f = 1 ∧ ((¬ se_b (T q) ∧ a = (T q).2.1) ∨ (se_b (T q) ∧ ¬ (20 ≤ o ∨ 8 < dn) ∧ 17 ≤ se_j (T q) ∧ se_j (T q) < 24 ∧ ((¬ se_z (T (rv_x T q)) ∧ a = (T (rv_x T q)).2.1) ∨ (se_z (T (rv_x T q)) ∧ ¬ (T (rv_x T (rv_x T q))).1 = 2 ∧ a = (T (rv_x T (rv_x T q))).2.1))))) ∨ (f = 4 ∧ se_b (T q) ∧ (20 ≤ o ∨ 8 < dn) ∧ a = (T q).2.1) → ∀ M', sr_F Mb m rd sk f a M' → Q (some (.inl 0)) G M')
    (hN : se_b (T q) → ¬ (20 ≤ o ∨ 8 < dn) → se_j (T q) = 14 → ∀ M', sr_H Mb n m rd sk T (10 :: S) ((dn + 1 : Nat) : Int) 0 (rv_x T q) (o + 1) cs M' → Q (some (.inl 1)) G M')
    (hO : se_b (T q) → ¬ (20 ≤ o ∨ 8 < dn) → se_s (T q) 40 → ∀ M', sr_H Mb n m rd sk T (13 :: S) ((dn + 1 : Nat) : Int) 0 (rv_x T q) (o + 1) cs M' → Q (some (.inl 1)) G M')
    (hL : se_b (T q) → ¬ (20 ≤ o ∨ 8 < dn) → (se_j (T q) = 15 ∨ se_j (T q) = 16) → ∀ M', sr_H Mb n m rd sk T S (dn : Int) 1 (rv_x T q) (o + 1) (cs ++ [(se_j (T q), 0, 0)]) M' → Q (some (.inl 1)) G M')
    (hM : se_b (T q) → ¬ (20 ≤ o ∨ 8 < dn) → 17 ≤ se_j (T q) → se_j (T q) < 24 → se_z (T (rv_x T q)) → (T (rv_x T (rv_x T q))).1 = 2 → (0 ≤ (T (rv_x T (rv_x T q))).2.2.1 ∧ (T (rv_x T (rv_x T q))).2.2.1 ≤ 999) → ∀ M', sr_H Mb n m rd sk T S (dn : Int) 1 (rv_x T (rv_x T (rv_x T q))) (o + 1) (cs ++ [(se_j (T q), (T (rv_x T q)).2.2.1, (T (rv_x T (rv_x T q))).2.2.1)]) M' → Q (some (.inl 1)) G M') : mj_R mj_tab (d + 3) 222 [.inr (.inr (some m))] G M Q := by
  obtain ⟨⟨gm, gbt, grd, gsk⟩, ⟨r1, r8, r52⟩, -⟩ := id hA
  have j24 := se_j_le (T q)
  have s40 : se_s (T q) 40 → se_j (T q) = 24 := fun c => by
    rcases Nat.lt_or_ge (se_j (T q)) 24 with e | e
    · have := (se_j_lt e).1
      have := c.1
      omega
    · omega
  -- behind the three questions
  have main : ∀ (b1 b2 lf : Int), ((se_j (T q) = 14 → b1 = 1) ∧ (¬ se_j (T q) = 14 → b1 = 0)) → ((se_s (T q) 40 → b2 = 1) ∧ (¬ se_s (T q) 40 → b2 = 0)) → (((15 ≤ se_j (T q) ∧ se_j (T q) < 24) → lf = (se_j (T q) : Int) - 15) ∧ (¬ (15 ≤ se_j (T q) ∧ se_j (T q) < 24) → lf = -1)) → se_b (T q) → ∀ cb sb, wz (d + 2) mt_X12_operand.2.2.2.2.1 Q (mt_X12_operand.2.2.2.2.1.drop 21) [some (.inr (.inr (some m))), some (.inl b1), some (.inl b2), some (.inl lf), none] [] G M cb sb := by
    intro b1 b2 lf e1 e2 e3 hb' cb sb
    obtain ⟨g1, g2, g3, g4, g5, g6, p1, p2, p3, p4, p5, p6, p7⟩ := id h
    have full : (20 ≤ o ∨ 8 < dn) → ∀ cb sb, wz (d + 2) mt_X12_operand.2.2.2.2.1 Q (mt_X12_operand.2.2.2.2.1.drop 29) [some (.inr (.inr (some m))), some (.inl b1), some (.inl b2), some (.inl lf), none] [] G M cb sb := fun c cb sb => by
      refine w_aln rfl ?_
      refine w_ic ?_
      refine w_cv (st := []) rfl gm rfl (Nat.le_of_ble_eq_true rfl) (fun kk h => h) (sr_bad (d := d + 1) hA h (fun M' F => ?_))
      exact w_iret (fun _ => Or.inl rfl) (hF 4 _ (Or.inr ⟨rfl, hb', c, rfl⟩) M' F)
    refine w_aln rfl ?_
    refine w_gi gm rfl (by decide) rfl p2 ?_
    refine w_bp ?_
    refine w_cmeq (fun c => full (by omega) _ _) (fun c20 => ?_)
    refine w_aln rfl ?_
    refine w_gi gm rfl (by decide) rfl p4 ?_
    refine w_bp ?_
    refine w_cmle (fun c8 => ?_) (fun c8 => full (by omega) _ _)
    have nf : ¬ (20 ≤ o ∨ 8 < dn) := by omega
    refine w_aln rfl ?_
    refine w_dupr ?_
    refine w_gi gm rfl (by decide) rfl p2 ?_
    refine w_ic ?_
    refine w_add ⟨by omega, by omega⟩ ?_
    refine w_pi gm rfl (by decide) rfl (fun q => by cases q) ?_
    have hk : (T q).1 ≠ 0 ∧ (T q).1 ≠ 5 := by
      rcases hb' with e | e
      · exact ⟨by rw [e.1]; decide, by rw [e.1]; decide⟩
      · have := (se_j_lt e.2).1; omega
    have hH : sr_H Mb n m rd sk T S (dn : Int) 0 q (o + 1) cs (mj_p0 M m 54 ((o : Int) + 1)) := h.cg (fun a a1 _ _ => wz_c a1) rfl (fun j hj => hn_n (Or.inr (by omega))) ⟨(hn_n (Or.inr (by decide))).trans p1, hn_s.trans rfl, (hn_n (Or.inr (by decide))).trans p3, (hn_n (Or.inr (by decide))).trans p4, (hn_n (Or.inr (by decide))).trans p5, fun j hj => by rw [wz_c (hn_ne grd gm (by decide))]; exact p6 j hj, p7.cg (fun j _ => by rw [wz_c (hn_ne gsk gm (by decide))])⟩
    refine w_aln rfl ?_
    refine w_cv (st := []) rfl gm rfl (Nat.le_of_ble_eq_true rfl) (fun kk h => h) (sr_next (d := d) hA hH hk.1 hk.2 (fun M1 s1 => ?_))
    obtain ⟨f1, f2, f3, f4, f5, f6, u1, u2, u3, u4, u5, u6, u7⟩ := id s1
    -- a stack's entry more
    have push : ∀ (y : Int) (M2 : mj_M), M2 = mj_p0 (mj_p0 (mj_p0 M1 sk S.length y) m 55 ((S.length : Int) + 1)) m 56 ((dn : Int) + 1) → sr_H Mb n m rd sk T (y :: S) ((dn + 1 : Nat) : Int) 0 (rv_x T q) (o + 1) cs M2 := fun y M2 e => by
      subst e
      have em : ∀ j, j ≠ 55 → j ≠ 56 → (mj_p0 (mj_p0 (mj_p0 M1 sk S.length y) m 55 ((S.length : Int) + 1)) m 56 ((dn : Int) + 1)).1 m j = M1.1 m j := fun j j1 j2 => (hn_n (Or.inr j2)).trans ((hn_n (Or.inr j1)).trans (hn_n (Or.inl (hn_ne gm gsk (by decide)))))
      have eo : ∀ a, a ≠ m → a ≠ sk → (mj_p0 (mj_p0 (mj_p0 M1 sk S.length y) m 55 ((S.length : Int) + 1)) m 56 ((dn : Int) + 1)).1 a = M1.1 a := fun a a1 a2 => (wz_c a1).trans ((wz_c a1).trans (wz_c a2))
      have es : (mj_p0 (mj_p0 (mj_p0 M1 sk S.length y) m 55 ((S.length : Int) + 1)) m 56 ((dn : Int) + 1)).1 sk = (mj_p0 M1 sk S.length y).1 sk := (wz_c (hn_ne gsk gm (by decide))).trans (wz_c (hn_ne gsk gm (by decide)))
      exact s1.cg (fun a a1 _ a3 => eo a a1 a3) rfl (fun j hj => em j (by omega) (by omega)) ⟨(em 53 (by decide) (by decide)).trans u1, (em 54 (by decide) (by decide)).trans u2, (hn_n (Or.inr (by decide))).trans (hn_s.trans rfl), hn_s.trans rfl, (em 57 (by decide) (by decide)).trans u5, fun j hj => by rw [eo rd (hn_ne grd gm (by decide)) (hn_ne grd gsk (by decide))]; exact u6 j hj, by rw [es]; exact hn_s, u7.cg (fun j hj => by rw [es]; exact hn_n (Or.inr (by omega)))⟩
    have tail : ∀ (y : Int) (cb sb : Nat), (∀ M2, sr_H Mb n m rd sk T (y :: S) ((dn + 1 : Nat) : Int) 0 (rv_x T q) (o + 1) cs M2 → Q (some (.inl 1)) G M2) → wz (d + 2) mt_X12_operand.2.2.2.2.1 Q (mt_X12_operand.2.2.2.2.1.drop 54) [some (.inr (.inr (some m))), some (.inl b1), some (.inl b2), some (.inl lf), none] [.inl y, .inl (S.length : Int), .inr (.inr (some sk))] G M1 cb sb := fun y cb sb hy => by
      refine w_iast gsk rfl (by decide) (by omega) (by show (S.length : Int) < ((45 : Nat) : Int); omega) ?_
      rw [Int.toNat_natCast]
      refine w_aln rfl ?_
      refine w_dupr ?_
      refine w_gi gm rfl (by decide) rfl ((hn_n (Or.inl (hn_ne gm gsk (by decide)))).trans u3) ?_
      refine w_ic ?_
      refine w_add ⟨by omega, by omega⟩ ?_
      refine w_pi gm rfl (by decide) rfl (fun q => by cases q) ?_
      refine w_aln rfl ?_
      refine w_dupr ?_
      refine w_gi gm rfl (by decide) rfl ((hn_n (Or.inr (by decide))).trans ((hn_n (Or.inl (hn_ne gm gsk (by decide)))).trans u4)) ?_
      refine w_ic ?_
      refine w_add ⟨by omega, by omega⟩ ?_
      refine w_pi gm rfl (by decide) rfl (fun q => by cases q) ?_
      refine w_ic ?_
      exact w_iret (fun _ => Or.inr rfl) (hy _ (push y _ rfl))
    have pu : (b1 ≠ 0 ∨ b2 ≠ 0) → ∀ cb sb, wz (d + 2) mt_X12_operand.2.2.2.2.1 Q (mt_X12_operand.2.2.2.2.1.drop 45) [some (.inr (.inr (some m))), some (.inl b1), some (.inl b2), some (.inl lf), none] [] G M1 cb sb := fun c cb sb => by
      refine w_aln rfl ?_
      refine w_gr gm rfl (by decide) rfl (by rw [f2]; exact r52) ?_
      refine w_aln rfl ?_
      refine w_gi gm rfl (by decide) rfl u3 ?_
      refine w_iln rfl ?_
      by_cases c14 : se_j (T q) = 14
      · rw [e1.1 c14]
        refine w_ifeq (fun c => absurd c (by decide)) (fun _ => ?_)
        refine w_bp ?_
        refine w_goto ?_
        have tl := tail 10 cb sb (fun M2 h2 => hN hb' nf c14 M2 h2)
        rw [e1.1 c14] at tl
        exact tl
      · rw [e1.2 c14]
        have c40 : se_s (T q) 40 := Classical.byContradiction (fun g => by have := e1.2 c14; have := e2.2 g; omega)
        refine w_ifeq (fun _ => ?_) (fun c => absurd rfl c)
        refine w_bp ?_
        have tl := tail 13 cb sb (fun M2 h2 => hO hb' nf c40 M2 h2)
        rw [e1.2 c14] at tl
        exact tl
    refine w_iln rfl ?_
    refine w_ifne (fun c => pu (Or.inl c) _ _) (fun c14 => ?_)
    refine w_iln rfl ?_
    refine w_ifeq (fun c40 => ?_) (fun c => pu (Or.inr c) _ _)
    have n14 : ¬ se_j (T q) = 14 := fun g => by have := e1.1 g; omega
    have n40 : ¬ se_s (T q) 40 := fun g => by have := e2.1 g; omega
    have hj := hb'.resolve_left n40
    have lfe := e3.1 (by omega)
    -- isWhole
    refine w_aln rfl ?_
    refine w_ic ?_
    refine w_pi gm rfl (by decide) rfl (fun q => by cases q) ?_
    have hW : sr_H Mb n m rd sk T S (dn : Int) 1 (rv_x T q) (o + 1) cs (mj_p0 M1 m 57 1) := s1.cg (fun a a1 _ _ => wz_c a1) rfl (fun j hj => hn_n (Or.inr (by omega))) ⟨(hn_n (Or.inr (by decide))).trans u1, (hn_n (Or.inr (by decide))).trans u2, (hn_n (Or.inr (by decide))).trans u3, (hn_n (Or.inr (by decide))).trans u4, hn_s, fun j hj => by rw [wz_c (hn_ne grd gm (by decide))]; exact u6 j hj, u7.cg (fun j _ => by rw [wz_c (hn_ne gsk gm (by decide))])⟩
    have hkk : lf = se_k (se_j (T q)) := by
      unfold se_k
      rw [if_neg (by omega)]
      exact lfe
    refine w_iln rfl ?_
    refine w_ic ?_
    refine w_cmge (fun c2 => ?_) (fun c2 => ?_)
    · -- a measure
      have tq := hW.2.2.2.2.1
      have l1 := hW.2.2.2.2.2.1
      have hk1 := rv_tkc_f (sr_tw hA l1).1
      have bad1 : ¬ se_z (T (rv_x T q)) → ∀ cb sb, wz (d + 2) mt_X12_operand.2.2.2.2.1 Q (mt_X12_operand.2.2.2.2.1.drop 94) [some (.inr (.inr (some m))), some (.inl b1), some (.inl b2), some (.inl lf), none] [] G (mj_p0 M1 m 57 1) cb sb := fun c cb sb => by
        refine w_aln rfl ?_
        refine w_ic ?_
        refine w_cv (st := []) rfl gm rfl (Nat.le_of_ble_eq_true rfl) (fun kk h => h) (sr_bad (d := d + 1) hA hW (fun M' F => ?_))
        exact w_iret (fun _ => Or.inl rfl) (hF 1 _ (Or.inl ⟨rfl, Or.inr ⟨hb', nf, by omega, hj.2, Or.inl ⟨c, rfl⟩⟩⟩) M' F)
      refine w_aln rfl ?_
      refine w_gi gm rfl (by decide) rfl tq.1 ?_
      refine w_ic ?_
      refine w_cmne (fun c3 => ?_) (fun c3 => ?_)
      · refine bad1 (fun g => ?_) _ _
        rcases rv_tkc_s g.1 with e2 | e2
        · exact c3 e2.1
        · exact e2.2 (Or.inr (Or.inr (Or.inr g.2)))
      · have k3 : (T (rv_x T q)).1 = 3 := by omega
        have v14 := tq.2.2.2.2.1 k3
        refine w_aln rfl ?_
        refine w_gi gm rfl (by decide) rfl v14 ?_
        refine w_bp ?_
        refine w_cmlt (fun c60 => bad1 (fun g => by have := g.2.1; omega) _ _) (fun c60 => ?_)
        refine w_aln rfl ?_
        refine w_gi gm rfl (by decide) rfl v14 ?_
        refine w_bp ?_
        refine w_cmle (fun c62 => ?_) (fun c62 => bad1 (fun g => by have := g.2.2; omega) _ _)
        have cz : se_z (T (rv_x T q)) := ⟨k3, c60, c62⟩
        refine w_aln rfl ?_
        refine w_gi gm rfl (by decide) rfl v14 ?_
        refine w_is ?_
        refine w_aln rfl ?_
        refine w_cv (st := []) rfl gm rfl (Nat.le_of_ble_eq_true rfl) (fun kk h => h) (sr_next (d := d) hA hW (by omega) (by omega) (fun M2 s2 => ?_))
        have tq2 := s2.2.2.2.2.1
        have l2 := s2.2.2.2.2.2.1
        have hk2 := rv_tkc_f (sr_tw hA l2).1
        refine w_aln rfl ?_
        refine w_gi gm rfl (by decide) rfl tq2.1 ?_
        refine w_ic ?_
        refine w_cmeq (fun c22 => ?_) (fun c22 => ?_)
        · have k2 : (T (rv_x T (rv_x T q))).1 = 2 := by omega
          have v2 := tq2.2.2.2.1 k2
          refine w_aln rfl ?_
          refine w_iln rfl ?_
          refine w_il rfl ?_
          refine w_aln rfl ?_
          refine w_gi gm rfl (by decide) rfl v2.1 ?_
          refine w_cv (st := []) rfl gm rfl (Nat.le_of_ble_eq_true rfl) (fun kk h => h) (sr_code (d := d + 1) hA s2 (by omega) hkk (fun M3 s3 => ?_))
          refine w_aln rfl ?_
          refine w_cv (st := []) rfl gm rfl (Nat.le_of_ble_eq_true rfl) (fun kk h => h) (sr_next (d := d) hA s3 (by omega) (by omega) (fun M4 s4 => ?_))
          refine w_ic ?_
          exact w_iret (fun _ => Or.inr rfl) (hM hb' nf (by omega) hj.2 cz k2 v2.2 M4 s4)
        · refine w_aln rfl ?_
          refine w_ic ?_
          refine w_cv (st := []) rfl gm rfl (Nat.le_of_ble_eq_true rfl) (fun kk h => h) (sr_bad (d := d + 1) hA s2 (fun M' F => ?_))
          exact w_iret (fun _ => Or.inl rfl) (hF 1 _ (Or.inl ⟨rfl, Or.inr ⟨hb', nf, by omega, hj.2, Or.inr ⟨cz, by omega, rfl⟩⟩⟩) M' F)
    · refine w_aln rfl ?_
      refine w_iln rfl ?_
      refine w_ic ?_
      refine w_ic ?_
      refine w_cv (st := []) rfl gm rfl (Nat.le_of_ble_eq_true rfl) (fun kk h => h) (sr_code (d := d + 1) hA hW (by omega) hkk (fun M3 s3 => ?_))
      refine w_ic ?_
      exact w_iret (fun _ => Or.inr rfl) (hL hb' nf (by omega) M3 s3)
  have ask : ∀ (b1 b2 : Int), ((se_j (T q) = 14 → b1 = 1) ∧ (¬ se_j (T q) = 14 → b1 = 0)) → ((se_s (T q) 40 → b2 = 1) ∧ (¬ se_s (T q) 40 → b2 = 0)) → ∀ cb sb, wz (d + 2) mt_X12_operand.2.2.2.2.1 Q (mt_X12_operand.2.2.2.2.1.drop 8) [some (.inr (.inr (some m))), some (.inl b1), some (.inl b2), none, none] [] G M cb sb := by
    intro b1 b2 e1 e2 cb sb
    refine w_aln rfl ?_
    refine w_cv (st := []) rfl gm rfl (Nat.le_of_ble_eq_true rfl) (fun kk h => h) (sr_leafOf (d := d) hA h (fun lf l1 l2 => ?_))
    refine w_isn ?_
    show wz _ _ _ _ [some (.inr (.inr (some m))), some (.inl b1), some (.inl b2), some (.inl lf), none] _ _ _ _ _
    refine w_iln rfl ?_
    refine w_ifne (fun c => main b1 b2 lf e1 e2 ⟨l1, l2⟩ (Or.inr (by have := Classical.byContradiction (fun g => c (e1.2 g)); omega)) _ _) (fun c1 => ?_)
    refine w_iln rfl ?_
    refine w_ifne (fun c => main b1 b2 lf e1 e2 ⟨l1, l2⟩ (Or.inl (Classical.byContradiction (fun g => c (e2.2 g)))) _ _) (fun c2 => ?_)
    refine w_iln rfl ?_
    refine w_ifge (fun c => main b1 b2 lf e1 e2 ⟨l1, l2⟩ (Or.inr (by
      have := Classical.byContradiction (fun g => by have := l2 g; omega : ¬ ¬ (15 ≤ se_j (T q) ∧ se_j (T q) < 24))
      omega)) _ _) (fun c3 => ?_)
    refine w_aln rfl ?_
    refine w_ic ?_
    refine w_cv (st := []) rfl gm rfl (Nat.le_of_ble_eq_true rfl) (fun kk h => h) (sr_bad (d := d + 1) hA h (fun M' F => ?_))
    refine w_iret (fun _ => Or.inl rfl) (hF 1 _ (Or.inl ⟨rfl, Or.inl ⟨fun hb' => ?_, rfl⟩⟩) M' F)
    rcases hb' with g | g
    · have := e2.1 g; omega
    · by_cases c14 : se_j (T q) = 14
      · have := e1.1 c14; omega
      · have := l1 (by omega); omega
  refine ⟨Nat.le_of_ble_eq_true rfl, ?_⟩
  show wz (d + 2) mt_X12_operand.2.2.2.2.1 Q mt_X12_operand.2.2.2.2.1 [some (.inr (.inr (some m))), none, none, none, none] [] G M _ _
  have sgn : ∀ (b1 : Int), ((se_j (T q) = 14 → b1 = 1) ∧ (¬ se_j (T q) = 14 → b1 = 0)) → ∀ cb sb, wz (d + 2) mt_X12_operand.2.2.2.2.1 Q (mt_X12_operand.2.2.2.2.1.drop 4) [some (.inr (.inr (some m))), some (.inl b1), none, none, none] [] G M cb sb := by
    intro b1 e1 cb sb
    refine w_aln rfl ?_
    refine w_bp ?_
    refine w_cv (st := []) rfl gm rfl (Nat.le_of_ble_eq_true rfl) (fun kk h => h) (sr_isSign (d := d + 1) hA h (Or.inl rfl) (fun c => ?_) (fun c => ?_))
    · refine w_isn ?_
      exact ask b1 1 e1 ⟨fun _ => rfl, fun g => absurd c g⟩ _ _
    · refine w_isn ?_
      exact ask b1 0 e1 ⟨fun g => absurd g c, fun _ => rfl⟩ _ _
  refine w_aln rfl ?_
  refine w_l2 ?_
  refine w_cv (st := []) rfl gm rfl (Nat.le_of_ble_eq_true rfl) (fun kk h => h) (sr_isWord (d := d + 1) (i := 14) hA h (by decide) (by decide +kernel) (fun c => ?_) (fun c => ?_))
  · refine w_isn ?_
    exact sgn 1 ⟨fun _ => rfl, fun g => absurd c g⟩ _ _
  · refine w_isn ?_
    exact sgn 0 ⟨fun g => absurd g c, fun _ => rfl⟩ _ _
end UF
