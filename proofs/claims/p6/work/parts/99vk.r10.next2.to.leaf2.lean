section
/-! ===== the reference's next: a run of letters and digits (laid by a program) ===== -/
/-- whether all of the first k bytes are of the first one's sort -/
def rv_al (B : Nat → Int) (q k : Nat) (sm al : Int) : Prop := (al = 0 ∨ al = 1) ∧ (sm = 0 ∨ sm = 1) ∧ (sm = 1 → al = 1 → rv_nl B q k = k) ∧ (sm = 1 → al = 0 → rv_nl B q k < k) ∧ (sm = 0 → al = 1 → rv_nl B q k = 0) ∧ (sm = 0 → al = 0 → 0 < rv_nl B q k)
theorem r_nxt2 {d m br n q : Nat} {v1 : Option mj_V} {sm : Int} {B : Nat → Int} {G : mj_G} {Q : mj_P} (hm : G m = (1012, 0)) (hb : G br = (50101, 940)) (hn : n ≤ 940) : ∀ (f k : Nat) (al : Int) (M : mj_M) (cb sb : Nat), n ≤ q + k + f → q + k ≤ n → M.2.2 m 1 = some br → M.1 m 3 = (n : Int) → M.1 m 4 = ((q + k : Nat) : Int) → M.1 m 13 = (k : Int) → rv_al B q k sm al → (k ≤ 8 → M.2.1 m 17 = rv_w8 B q k) → (rv_nl B q k = 0 → k ≤ 3 → rv_nk B q k (M.1 m 14)) → (∀ k, rv_u8 (M.1 br k) = B k) →
    (∀ (k' : Nat) (al : Int) (M' : mj_M), rv_rn B n f (q + k) = q + k' → q + k' ≤ n → M'.1 m 4 = ((q + k' : Nat) : Int) → M'.1 m 13 = (k' : Int) → rv_al B q k' sm al → (k' ≤ 8 → M'.2.1 m 17 = rv_w8 B q k') → (rv_nl B q k' = 0 → k' ≤ 3 → rv_nk B q k' (M'.1 m 14)) → rv_o m [4, 13, 14] M M' → M'.2.2 = M.2.2 → (∀ a j, ¬ (a = m ∧ j = 17) → M'.2.1 a j = M.2.1 a j) → wz (d + 1) mt_X12_next.2.2.2.2.1 Q (mt_X12_next.2.2.2.2.1.drop 157) [some (.inr (.inr (some m))), v1, some (.inl sm), some (.inl al)] [] G M' cb sb) → wz (d + 1) mt_X12_next.2.2.2.2.1 Q (mt_X12_next.2.2.2.2.1.drop 96) [some (.inr (.inr (some m))), v1, some (.inl sm), some (.inl al)] [] G M cb sb := by
  have ne : br ≠ m := hn_ne hb hm (by decide)
  intro f
  induction f with
  | zero =>
    intro k al M cb sb hf hq f1 fs fh fk ha hw8 hu fb hK
    refine w_aln rfl ?_
    refine w_cv (st := []) rfl hm rfl (Nat.le_of_ble_eq_true rfl) (fun kk h => h) (r_X12_peek (d := d) (p := q + k) (B := B) hm hb hn f1 (fs) (fh) fb (fun c => by exfalso; omega) (fun c => ?_))
    · skip
      refine w_cs (st := []) rfl (Nat.le_of_ble_eq_true rfl) (fun kk h => h) (r_X12_isSmall (d := d) (fun a b => by exfalso; omega) (fun a => ?_))
      · skip
        refine w_ifne (fun c1 => ?_) (fun c1 => ?_)
        · exfalso; omega
        · skip
          refine w_aln rfl ?_
          refine w_cv (st := []) rfl hm rfl (Nat.le_of_ble_eq_true rfl) (fun kk h => h) (r_X12_peek (d := d) (p := q + k) (B := B) hm hb hn f1 (fs) (fh) fb (fun c => by exfalso; omega) (fun c => ?_))
          · skip
            refine w_cs (st := []) rfl (Nat.le_of_ble_eq_true rfl) (fun kk h => h) (r_X12_isDigit (d := d) (fun a b => by exfalso; omega) (fun a => ?_))
            · skip
              refine w_ifeq (fun c2 => ?_) (fun c2 => ?_)
              · skip
                exact hK k al M rfl hq fh fk ha hw8 hu rv_o.rf rfl (fun _ _ _ => rfl)
              · exfalso; omega
  | succ f ih =>
    intro k al M cb sb hf hq f1 fs fh fk ha hw8 hu fb hK
    have hl := rv_nl_le B q k
    have ub := rv_u8_in (M.1 br (q + k))
    rw [fb (q + k)] at ub
    obtain ⟨a1, a2, a3, a4, a5, a6⟩ := id ha
    refine w_aln rfl ?_
    refine w_cv (st := []) rfl hm rfl (Nat.le_of_ble_eq_true rfl) (fun kk h => h) (r_X12_peek (d := d) (p := q + k) (B := B) hm hb hn f1 (fs) (fh) fb (fun ci => ?_) (fun ci => ?_))
    · skip
      refine w_cs (st := []) rfl (Nat.le_of_ble_eq_true rfl) (fun kk h => h) (r_X12_isSmall (d := d) (fun l1 l2 => ?_) (fun l0 => ?_))
      · skip
        refine w_ifne (fun c1 => ?_) (fun c1 => ?_)
        · skip
          refine w_iln rfl ?_
          refine w_ifeq (fun c2 => ?_) (fun c2 => ?_)
          · skip
            refine w_ic ?_
            refine w_isn ?_
            refine w_aln rfl ?_
            refine w_gi hm rfl (by decide) rfl (fk) ?_
            refine w_bp ?_
            refine w_cmge (fun c3 => ?_) (fun c3 => ?_)
            · skip
              refine w_aln rfl ?_
              refine w_gi hm rfl (by decide) rfl (fk) ?_
              refine w_ic ?_
              refine w_cmge (fun c4 => ?_) (fun c4 => ?_)
              · skip
                refine w_aln rfl ?_
                refine w_dupr ?_
                refine w_gi hm rfl (by decide) rfl (fk) ?_
                refine w_ic ?_
                refine w_add ⟨by show (-2147483648 : Int) ≤ (k : Int) + 1; omega, by show (k : Int) + 1 < (2147483648 : Int); omega⟩ ?_
                refine w_pi hm rfl (by decide) rfl (fun q => by cases q) ?_
                refine w_aln rfl ?_
                refine w_dupr ?_
                refine w_gi hm rfl (by decide) rfl ((hn_n (Or.inr (by decide))).trans (fh)) ?_
                refine w_ic ?_
                refine w_add ⟨by show (-2147483648 : Int) ≤ ((q + k : Nat) : Int) + 1; omega, by show ((q + k : Nat) : Int) + 1 < (2147483648 : Int); omega⟩ ?_
                refine w_pi hm rfl (by decide) rfl (fun q => by cases q) ?_
                refine w_goto ?_
                have en := rv_nl_s (q := q) (k := k) (rv_le_t l1 l2)
                have er : rv_rn B n (f + 1) (q + k) = rv_rn B n f (q + (k + 1)) := if_pos ⟨by omega, rv_an_l l1 l2⟩
                exact ih (k + 1) 0 _ cb sb (by omega) (by omega) f1 ((hn_n (Or.inr (by decide))).trans ((hn_n (Or.inr (by decide))).trans (fs))) ((hn_s).trans (by omega)) (((hn_n (Or.inr (by decide))).trans (hn_s)).trans (by omega)) ⟨by omega, a2, fun h h2 => by omega, fun h h2 => by omega, fun h h2 => by omega, fun h h2 => by omega⟩ (fun g => by exfalso; omega) (fun g g3 => by exfalso; omega) (fun j => Eq.trans (congrArg rv_u8 ((hn_n (Or.inl ne)).trans ((hn_n (Or.inl ne))))) (fb j)) (fun k' al M' g0 g1 g2 g3 g4 g5 g6 g7 g8 g9 => hK k' al M' (er.trans g0) g1 g2 g3 g4 g5 g6 (rv_o.tr (rv_o.tr (rv_o.tr rv_o.rf (rv_o.st (a := m) (j := 13) (by decide))) (rv_o.st (a := m) (j := 4) (by decide))) g7) g8 g9)
              · skip
                refine w_aln rfl ?_
                refine w_bp ?_
                refine w_aln rfl ?_
                refine w_gi hm rfl (by decide) rfl ((rfl : _ = M.1 m 14)) ?_
                refine w_mulw ?_
                intro z5 hz5 ez5
                refine w_aln rfl ?_
                refine w_cv (st := [.inl z5, .inr (.inr (some m))]) rfl hm rfl (Nat.le_of_ble_eq_true rfl) (fun kk h => h) (r_X12_peek (d := d) (p := q + k) (B := B) hm hb hn f1 (fs) (fh) fb (fun c => ?_) (fun c => by exfalso; omega))
                · skip
                  refine w_addw ?_
                  intro z6 hz6 ez6
                  refine w_bp ?_
                  refine w_subw ?_
                  intro z7 hz7 ez7
                  refine w_pi hm rfl (by decide) rfl (fun q => by cases q) ?_
                  refine w_aln rfl ?_
                  refine w_dupr ?_
                  refine w_gi hm rfl (by decide) rfl ((hn_n (Or.inr (by decide))).trans (fk)) ?_
                  refine w_ic ?_
                  refine w_add ⟨by show (-2147483648 : Int) ≤ (k : Int) + 1; omega, by show (k : Int) + 1 < (2147483648 : Int); omega⟩ ?_
                  refine w_pi hm rfl (by decide) rfl (fun q => by cases q) ?_
                  refine w_aln rfl ?_
                  refine w_dupr ?_
                  refine w_gi hm rfl (by decide) rfl ((hn_n (Or.inr (by decide))).trans ((hn_n (Or.inr (by decide))).trans (fh))) ?_
                  refine w_ic ?_
                  refine w_add ⟨by show (-2147483648 : Int) ≤ ((q + k : Nat) : Int) + 1; omega, by show ((q + k : Nat) : Int) + 1 < (2147483648 : Int); omega⟩ ?_
                  refine w_pi hm rfl (by decide) rfl (fun q => by cases q) ?_
                  refine w_goto ?_
                  have en := rv_nl_s (q := q) (k := k) (rv_le_t l1 l2)
                  have er : rv_rn B n (f + 1) (q + k) = rv_rn B n f (q + (k + 1)) := if_pos ⟨by omega, rv_an_l l1 l2⟩
                  exact ih (k + 1) 0 _ cb sb (by omega) (by omega) f1 ((hn_n (Or.inr (by decide))).trans ((hn_n (Or.inr (by decide))).trans ((hn_n (Or.inr (by decide))).trans (fs)))) ((hn_s).trans (by omega)) (((hn_n (Or.inr (by decide))).trans (hn_s)).trans (by omega)) ⟨by omega, a2, fun h h2 => by omega, fun h h2 => by omega, fun h h2 => by omega, fun h h2 => by omega⟩ (fun g => by exfalso; omega) (fun g g3 => by exfalso; omega) (fun j => Eq.trans (congrArg rv_u8 ((hn_n (Or.inl ne)).trans ((hn_n (Or.inl ne)).trans ((hn_n (Or.inl ne)))))) (fb j)) (fun k' al M' g0 g1 g2 g3 g4 g5 g6 g7 g8 g9 => hK k' al M' (er.trans g0) g1 g2 g3 g4 g5 g6 (rv_o.tr (rv_o.tr (rv_o.tr (rv_o.tr rv_o.rf (rv_o.st (a := m) (j := 14) (by decide))) (rv_o.st (a := m) (j := 13) (by decide))) (rv_o.st (a := m) (j := 4) (by decide))) g7) g8 g9)
            · skip
              refine w_aln rfl ?_
              refine w_aln rfl ?_
              refine w_gl hm rfl (by decide) rfl ((rfl : _ = M.2.1 m 17)) ?_
              refine w_bp ?_
              refine w_lshl ?_
              refine w_aln rfl ?_
              refine w_cv (st := [.inr (.inl ((M.2.1 m 17) <<< ((Int32.ofInt 8).toInt64 &&& 63))), .inr (.inr (some m))]) rfl hm rfl (Nat.le_of_ble_eq_true rfl) (fun kk h => h) (r_X12_peek (d := d) (p := q + k) (B := B) hm hb hn f1 (fs) (fh) fb (fun c => ?_) (fun c => by exfalso; omega))
              · skip
                refine w_i2l ?_
                refine w_lor ?_
                refine w_pl hm rfl (by decide) rfl ?_
                refine w_aln rfl ?_
                refine w_gi hm rfl (by decide) rfl (fk) ?_
                refine w_ic ?_
                refine w_cmge (fun c8 => ?_) (fun c8 => ?_)
                · skip
                  refine w_aln rfl ?_
                  refine w_dupr ?_
                  refine w_gi hm rfl (by decide) rfl (fk) ?_
                  refine w_ic ?_
                  refine w_add ⟨by show (-2147483648 : Int) ≤ (k : Int) + 1; omega, by show (k : Int) + 1 < (2147483648 : Int); omega⟩ ?_
                  refine w_pi hm rfl (by decide) rfl (fun q => by cases q) ?_
                  refine w_aln rfl ?_
                  refine w_dupr ?_
                  refine w_gi hm rfl (by decide) rfl ((hn_n (Or.inr (by decide))).trans (fh)) ?_
                  refine w_ic ?_
                  refine w_add ⟨by show (-2147483648 : Int) ≤ ((q + k : Nat) : Int) + 1; omega, by show ((q + k : Nat) : Int) + 1 < (2147483648 : Int); omega⟩ ?_
                  refine w_pi hm rfl (by decide) rfl (fun q => by cases q) ?_
                  refine w_goto ?_
                  have en := rv_nl_s (q := q) (k := k) (rv_le_t l1 l2)
                  have er : rv_rn B n (f + 1) (q + k) = rv_rn B n f (q + (k + 1)) := if_pos ⟨by omega, rv_an_l l1 l2⟩
                  exact ih (k + 1) 0 _ cb sb (by omega) (by omega) f1 ((hn_n (Or.inr (by decide))).trans ((hn_n (Or.inr (by decide))).trans (fs))) ((hn_s).trans (by omega)) (((hn_n (Or.inr (by decide))).trans (hn_s)).trans (by omega)) ⟨by omega, a2, fun h h2 => by omega, fun h h2 => by omega, fun h h2 => by omega, fun h h2 => by omega⟩ (fun g => wz_sl.trans (by rw [hw8 (by omega)]; rfl)) (fun g g3 => by exfalso; omega) (fun j => Eq.trans (congrArg rv_u8 ((hn_n (Or.inl ne)).trans ((hn_n (Or.inl ne))))) (fb j)) (fun k' al M' g0 g1 g2 g3 g4 g5 g6 g7 g8 g9 => hK k' al M' (er.trans g0) g1 g2 g3 g4 g5 g6 (rv_o.tr (rv_o.tr (rv_o.tr rv_o.rf (rv_o.st (a := m) (j := 13) (by decide))) (rv_o.st (a := m) (j := 4) (by decide))) g7) g8 (fun a j g => (g9 a j g).trans (wz_nl (Decidable.not_and_iff_or_not.mp g))))
                · skip
                  refine w_aln rfl ?_
                  refine w_bp ?_
                  refine w_aln rfl ?_
                  refine w_gi hm rfl (by decide) rfl ((rfl : _ = M.1 m 14)) ?_
                  refine w_mulw ?_
                  intro z9 hz9 ez9
                  refine w_aln rfl ?_
                  refine w_cv (st := [.inl z9, .inr (.inr (some m))]) rfl hm rfl (Nat.le_of_ble_eq_true rfl) (fun kk h => h) (r_X12_peek (d := d) (p := q + k) (B := B) hm hb hn f1 (fs) (fh) fb (fun c => ?_) (fun c => by exfalso; omega))
                  · skip
                    refine w_addw ?_
                    intro z10 hz10 ez10
                    refine w_bp ?_
                    refine w_subw ?_
                    intro z11 hz11 ez11
                    refine w_pi hm rfl (by decide) rfl (fun q => by cases q) ?_
                    refine w_aln rfl ?_
                    refine w_dupr ?_
                    refine w_gi hm rfl (by decide) rfl ((hn_n (Or.inr (by decide))).trans (fk)) ?_
                    refine w_ic ?_
                    refine w_add ⟨by show (-2147483648 : Int) ≤ (k : Int) + 1; omega, by show (k : Int) + 1 < (2147483648 : Int); omega⟩ ?_
                    refine w_pi hm rfl (by decide) rfl (fun q => by cases q) ?_
                    refine w_aln rfl ?_
                    refine w_dupr ?_
                    refine w_gi hm rfl (by decide) rfl ((hn_n (Or.inr (by decide))).trans ((hn_n (Or.inr (by decide))).trans (fh))) ?_
                    refine w_ic ?_
                    refine w_add ⟨by show (-2147483648 : Int) ≤ ((q + k : Nat) : Int) + 1; omega, by show ((q + k : Nat) : Int) + 1 < (2147483648 : Int); omega⟩ ?_
                    refine w_pi hm rfl (by decide) rfl (fun q => by cases q) ?_
                    refine w_goto ?_
                    have en := rv_nl_s (q := q) (k := k) (rv_le_t l1 l2)
                    have er : rv_rn B n (f + 1) (q + k) = rv_rn B n f (q + (k + 1)) := if_pos ⟨by omega, rv_an_l l1 l2⟩
                    exact ih (k + 1) 0 _ cb sb (by omega) (by omega) f1 ((hn_n (Or.inr (by decide))).trans ((hn_n (Or.inr (by decide))).trans ((hn_n (Or.inr (by decide))).trans (fs)))) ((hn_s).trans (by omega)) (((hn_n (Or.inr (by decide))).trans (hn_s)).trans (by omega)) ⟨by omega, a2, fun h h2 => by omega, fun h h2 => by omega, fun h h2 => by omega, fun h h2 => by omega⟩ (fun g => wz_sl.trans (by rw [hw8 (by omega)]; rfl)) (fun g g3 => by exfalso; omega) (fun j => Eq.trans (congrArg rv_u8 ((hn_n (Or.inl ne)).trans ((hn_n (Or.inl ne)).trans ((hn_n (Or.inl ne)))))) (fb j)) (fun k' al M' g0 g1 g2 g3 g4 g5 g6 g7 g8 g9 => hK k' al M' (er.trans g0) g1 g2 g3 g4 g5 g6 (rv_o.tr (rv_o.tr (rv_o.tr (rv_o.tr rv_o.rf (rv_o.st (a := m) (j := 14) (by decide))) (rv_o.st (a := m) (j := 13) (by decide))) (rv_o.st (a := m) (j := 4) (by decide))) g7) g8 (fun a j g => (g9 a j g).trans (wz_nl (Decidable.not_and_iff_or_not.mp g))))
          · skip
            refine w_aln rfl ?_
            refine w_cv (st := []) rfl hm rfl (Nat.le_of_ble_eq_true rfl) (fun kk h => h) (r_X12_peek (d := d) (p := q + k) (B := B) hm hb hn f1 (fs) (fh) fb (fun c => ?_) (fun c => by exfalso; omega))
            · skip
              refine w_cs (st := []) rfl (Nat.le_of_ble_eq_true rfl) (fun kk h => h) (r_X12_isSmall (d := d) (fun a b => ?_) (fun a => by exfalso; omega))
              · skip
                refine w_iln rfl ?_
                refine w_cmne (fun c12 => ?_) (fun c12 => ?_)
                · skip
                  refine w_ic ?_
                  refine w_isn ?_
                  refine w_aln rfl ?_
                  refine w_gi hm rfl (by decide) rfl (fk) ?_
                  refine w_bp ?_
                  refine w_cmge (fun c13 => ?_) (fun c13 => ?_)
                  · skip
                    refine w_aln rfl ?_
                    refine w_gi hm rfl (by decide) rfl (fk) ?_
                    refine w_ic ?_
                    refine w_cmge (fun c14 => ?_) (fun c14 => ?_)
                    · skip
                      refine w_aln rfl ?_
                      refine w_dupr ?_
                      refine w_gi hm rfl (by decide) rfl (fk) ?_
                      refine w_ic ?_
                      refine w_add ⟨by show (-2147483648 : Int) ≤ (k : Int) + 1; omega, by show (k : Int) + 1 < (2147483648 : Int); omega⟩ ?_
                      refine w_pi hm rfl (by decide) rfl (fun q => by cases q) ?_
                      refine w_aln rfl ?_
                      refine w_dupr ?_
                      refine w_gi hm rfl (by decide) rfl ((hn_n (Or.inr (by decide))).trans (fh)) ?_
                      refine w_ic ?_
                      refine w_add ⟨by show (-2147483648 : Int) ≤ ((q + k : Nat) : Int) + 1; omega, by show ((q + k : Nat) : Int) + 1 < (2147483648 : Int); omega⟩ ?_
                      refine w_pi hm rfl (by decide) rfl (fun q => by cases q) ?_
                      refine w_goto ?_
                      have en := rv_nl_s (q := q) (k := k) (rv_le_t l1 l2)
                      have er : rv_rn B n (f + 1) (q + k) = rv_rn B n f (q + (k + 1)) := if_pos ⟨by omega, rv_an_l l1 l2⟩
                      exact ih (k + 1) 0 _ cb sb (by omega) (by omega) f1 ((hn_n (Or.inr (by decide))).trans ((hn_n (Or.inr (by decide))).trans (fs))) ((hn_s).trans (by omega)) (((hn_n (Or.inr (by decide))).trans (hn_s)).trans (by omega)) ⟨by omega, a2, fun h h2 => by omega, fun h h2 => by omega, fun h h2 => by omega, fun h h2 => by omega⟩ (fun g => by exfalso; omega) (fun g g3 => by exfalso; omega) (fun j => Eq.trans (congrArg rv_u8 ((hn_n (Or.inl ne)).trans ((hn_n (Or.inl ne))))) (fb j)) (fun k' al M' g0 g1 g2 g3 g4 g5 g6 g7 g8 g9 => hK k' al M' (er.trans g0) g1 g2 g3 g4 g5 g6 (rv_o.tr (rv_o.tr (rv_o.tr rv_o.rf (rv_o.st (a := m) (j := 13) (by decide))) (rv_o.st (a := m) (j := 4) (by decide))) g7) g8 g9)
                    · skip
                      refine w_aln rfl ?_
                      refine w_bp ?_
                      refine w_aln rfl ?_
                      refine w_gi hm rfl (by decide) rfl ((rfl : _ = M.1 m 14)) ?_
                      refine w_mulw ?_
                      intro z15 hz15 ez15
                      refine w_aln rfl ?_
                      refine w_cv (st := [.inl z15, .inr (.inr (some m))]) rfl hm rfl (Nat.le_of_ble_eq_true rfl) (fun kk h => h) (r_X12_peek (d := d) (p := q + k) (B := B) hm hb hn f1 (fs) (fh) fb (fun c => ?_) (fun c => by exfalso; omega))
                      · skip
                        refine w_addw ?_
                        intro z16 hz16 ez16
                        refine w_bp ?_
                        refine w_subw ?_
                        intro z17 hz17 ez17
                        refine w_pi hm rfl (by decide) rfl (fun q => by cases q) ?_
                        refine w_aln rfl ?_
                        refine w_dupr ?_
                        refine w_gi hm rfl (by decide) rfl ((hn_n (Or.inr (by decide))).trans (fk)) ?_
                        refine w_ic ?_
                        refine w_add ⟨by show (-2147483648 : Int) ≤ (k : Int) + 1; omega, by show (k : Int) + 1 < (2147483648 : Int); omega⟩ ?_
                        refine w_pi hm rfl (by decide) rfl (fun q => by cases q) ?_
                        refine w_aln rfl ?_
                        refine w_dupr ?_
                        refine w_gi hm rfl (by decide) rfl ((hn_n (Or.inr (by decide))).trans ((hn_n (Or.inr (by decide))).trans (fh))) ?_
                        refine w_ic ?_
                        refine w_add ⟨by show (-2147483648 : Int) ≤ ((q + k : Nat) : Int) + 1; omega, by show ((q + k : Nat) : Int) + 1 < (2147483648 : Int); omega⟩ ?_
                        refine w_pi hm rfl (by decide) rfl (fun q => by cases q) ?_
                        refine w_goto ?_
                        have en := rv_nl_s (q := q) (k := k) (rv_le_t l1 l2)
                        have er : rv_rn B n (f + 1) (q + k) = rv_rn B n f (q + (k + 1)) := if_pos ⟨by omega, rv_an_l l1 l2⟩
                        exact ih (k + 1) 0 _ cb sb (by omega) (by omega) f1 ((hn_n (Or.inr (by decide))).trans ((hn_n (Or.inr (by decide))).trans ((hn_n (Or.inr (by decide))).trans (fs)))) ((hn_s).trans (by omega)) (((hn_n (Or.inr (by decide))).trans (hn_s)).trans (by omega)) ⟨by omega, a2, fun h h2 => by omega, fun h h2 => by omega, fun h h2 => by omega, fun h h2 => by omega⟩ (fun g => by exfalso; omega) (fun g g3 => by exfalso; omega) (fun j => Eq.trans (congrArg rv_u8 ((hn_n (Or.inl ne)).trans ((hn_n (Or.inl ne)).trans ((hn_n (Or.inl ne)))))) (fb j)) (fun k' al M' g0 g1 g2 g3 g4 g5 g6 g7 g8 g9 => hK k' al M' (er.trans g0) g1 g2 g3 g4 g5 g6 (rv_o.tr (rv_o.tr (rv_o.tr (rv_o.tr rv_o.rf (rv_o.st (a := m) (j := 14) (by decide))) (rv_o.st (a := m) (j := 13) (by decide))) (rv_o.st (a := m) (j := 4) (by decide))) g7) g8 g9)
                  · skip
                    refine w_aln rfl ?_
                    refine w_aln rfl ?_
                    refine w_gl hm rfl (by decide) rfl ((rfl : _ = M.2.1 m 17)) ?_
                    refine w_bp ?_
                    refine w_lshl ?_
                    refine w_aln rfl ?_
                    refine w_cv (st := [.inr (.inl ((M.2.1 m 17) <<< ((Int32.ofInt 8).toInt64 &&& 63))), .inr (.inr (some m))]) rfl hm rfl (Nat.le_of_ble_eq_true rfl) (fun kk h => h) (r_X12_peek (d := d) (p := q + k) (B := B) hm hb hn f1 (fs) (fh) fb (fun c => ?_) (fun c => by exfalso; omega))
                    · skip
                      refine w_i2l ?_
                      refine w_lor ?_
                      refine w_pl hm rfl (by decide) rfl ?_
                      refine w_aln rfl ?_
                      refine w_gi hm rfl (by decide) rfl (fk) ?_
                      refine w_ic ?_
                      refine w_cmge (fun c18 => ?_) (fun c18 => ?_)
                      · skip
                        refine w_aln rfl ?_
                        refine w_dupr ?_
                        refine w_gi hm rfl (by decide) rfl (fk) ?_
                        refine w_ic ?_
                        refine w_add ⟨by show (-2147483648 : Int) ≤ (k : Int) + 1; omega, by show (k : Int) + 1 < (2147483648 : Int); omega⟩ ?_
                        refine w_pi hm rfl (by decide) rfl (fun q => by cases q) ?_
                        refine w_aln rfl ?_
                        refine w_dupr ?_
                        refine w_gi hm rfl (by decide) rfl ((hn_n (Or.inr (by decide))).trans (fh)) ?_
                        refine w_ic ?_
                        refine w_add ⟨by show (-2147483648 : Int) ≤ ((q + k : Nat) : Int) + 1; omega, by show ((q + k : Nat) : Int) + 1 < (2147483648 : Int); omega⟩ ?_
                        refine w_pi hm rfl (by decide) rfl (fun q => by cases q) ?_
                        refine w_goto ?_
                        have en := rv_nl_s (q := q) (k := k) (rv_le_t l1 l2)
                        have er : rv_rn B n (f + 1) (q + k) = rv_rn B n f (q + (k + 1)) := if_pos ⟨by omega, rv_an_l l1 l2⟩
                        exact ih (k + 1) 0 _ cb sb (by omega) (by omega) f1 ((hn_n (Or.inr (by decide))).trans ((hn_n (Or.inr (by decide))).trans (fs))) ((hn_s).trans (by omega)) (((hn_n (Or.inr (by decide))).trans (hn_s)).trans (by omega)) ⟨by omega, a2, fun h h2 => by omega, fun h h2 => by omega, fun h h2 => by omega, fun h h2 => by omega⟩ (fun g => wz_sl.trans (by rw [hw8 (by omega)]; rfl)) (fun g g3 => by exfalso; omega) (fun j => Eq.trans (congrArg rv_u8 ((hn_n (Or.inl ne)).trans ((hn_n (Or.inl ne))))) (fb j)) (fun k' al M' g0 g1 g2 g3 g4 g5 g6 g7 g8 g9 => hK k' al M' (er.trans g0) g1 g2 g3 g4 g5 g6 (rv_o.tr (rv_o.tr (rv_o.tr rv_o.rf (rv_o.st (a := m) (j := 13) (by decide))) (rv_o.st (a := m) (j := 4) (by decide))) g7) g8 (fun a j g => (g9 a j g).trans (wz_nl (Decidable.not_and_iff_or_not.mp g))))
                      · skip
                        refine w_aln rfl ?_
                        refine w_bp ?_
                        refine w_aln rfl ?_
                        refine w_gi hm rfl (by decide) rfl ((rfl : _ = M.1 m 14)) ?_
                        refine w_mulw ?_
                        intro z19 hz19 ez19
                        refine w_aln rfl ?_
                        refine w_cv (st := [.inl z19, .inr (.inr (some m))]) rfl hm rfl (Nat.le_of_ble_eq_true rfl) (fun kk h => h) (r_X12_peek (d := d) (p := q + k) (B := B) hm hb hn f1 (fs) (fh) fb (fun c => ?_) (fun c => by exfalso; omega))
                        · skip
                          refine w_addw ?_
                          intro z20 hz20 ez20
                          refine w_bp ?_
                          refine w_subw ?_
                          intro z21 hz21 ez21
                          refine w_pi hm rfl (by decide) rfl (fun q => by cases q) ?_
                          refine w_aln rfl ?_
                          refine w_dupr ?_
                          refine w_gi hm rfl (by decide) rfl ((hn_n (Or.inr (by decide))).trans (fk)) ?_
                          refine w_ic ?_
                          refine w_add ⟨by show (-2147483648 : Int) ≤ (k : Int) + 1; omega, by show (k : Int) + 1 < (2147483648 : Int); omega⟩ ?_
                          refine w_pi hm rfl (by decide) rfl (fun q => by cases q) ?_
                          refine w_aln rfl ?_
                          refine w_dupr ?_
                          refine w_gi hm rfl (by decide) rfl ((hn_n (Or.inr (by decide))).trans ((hn_n (Or.inr (by decide))).trans (fh))) ?_
                          refine w_ic ?_
                          refine w_add ⟨by show (-2147483648 : Int) ≤ ((q + k : Nat) : Int) + 1; omega, by show ((q + k : Nat) : Int) + 1 < (2147483648 : Int); omega⟩ ?_
                          refine w_pi hm rfl (by decide) rfl (fun q => by cases q) ?_
                          refine w_goto ?_
                          have en := rv_nl_s (q := q) (k := k) (rv_le_t l1 l2)
                          have er : rv_rn B n (f + 1) (q + k) = rv_rn B n f (q + (k + 1)) := if_pos ⟨by omega, rv_an_l l1 l2⟩
                          exact ih (k + 1) 0 _ cb sb (by omega) (by omega) f1 ((hn_n (Or.inr (by decide))).trans ((hn_n (Or.inr (by decide))).trans ((hn_n (Or.inr (by decide))).trans (fs)))) ((hn_s).trans (by omega)) (((hn_n (Or.inr (by decide))).trans (hn_s)).trans (by omega)) ⟨by omega, a2, fun h h2 => by omega, fun h h2 => by omega, fun h h2 => by omega, fun h h2 => by omega⟩ (fun g => wz_sl.trans (by rw [hw8 (by omega)]; rfl)) (fun g g3 => by exfalso; omega) (fun j => Eq.trans (congrArg rv_u8 ((hn_n (Or.inl ne)).trans ((hn_n (Or.inl ne)).trans ((hn_n (Or.inl ne)))))) (fb j)) (fun k' al M' g0 g1 g2 g3 g4 g5 g6 g7 g8 g9 => hK k' al M' (er.trans g0) g1 g2 g3 g4 g5 g6 (rv_o.tr (rv_o.tr (rv_o.tr (rv_o.tr rv_o.rf (rv_o.st (a := m) (j := 14) (by decide))) (rv_o.st (a := m) (j := 13) (by decide))) (rv_o.st (a := m) (j := 4) (by decide))) g7) g8 (fun a j g => (g9 a j g).trans (wz_nl (Decidable.not_and_iff_or_not.mp g))))
                · skip
                  refine w_ic ?_
                  refine w_goto ?_
                  refine w_isn ?_
                  refine w_aln rfl ?_
                  refine w_gi hm rfl (by decide) rfl (fk) ?_
                  refine w_bp ?_
                  refine w_cmge (fun c22 => ?_) (fun c22 => ?_)
                  · skip
                    refine w_aln rfl ?_
                    refine w_gi hm rfl (by decide) rfl (fk) ?_
                    refine w_ic ?_
                    refine w_cmge (fun c23 => ?_) (fun c23 => ?_)
                    · skip
                      refine w_aln rfl ?_
                      refine w_dupr ?_
                      refine w_gi hm rfl (by decide) rfl (fk) ?_
                      refine w_ic ?_
                      refine w_add ⟨by show (-2147483648 : Int) ≤ (k : Int) + 1; omega, by show (k : Int) + 1 < (2147483648 : Int); omega⟩ ?_
                      refine w_pi hm rfl (by decide) rfl (fun q => by cases q) ?_
                      refine w_aln rfl ?_
                      refine w_dupr ?_
                      refine w_gi hm rfl (by decide) rfl ((hn_n (Or.inr (by decide))).trans (fh)) ?_
                      refine w_ic ?_
                      refine w_add ⟨by show (-2147483648 : Int) ≤ ((q + k : Nat) : Int) + 1; omega, by show ((q + k : Nat) : Int) + 1 < (2147483648 : Int); omega⟩ ?_
                      refine w_pi hm rfl (by decide) rfl (fun q => by cases q) ?_
                      refine w_goto ?_
                      have en := rv_nl_s (q := q) (k := k) (rv_le_t l1 l2)
                      have er : rv_rn B n (f + 1) (q + k) = rv_rn B n f (q + (k + 1)) := if_pos ⟨by omega, rv_an_l l1 l2⟩
                      exact ih (k + 1) 1 _ cb sb (by omega) (by omega) f1 ((hn_n (Or.inr (by decide))).trans ((hn_n (Or.inr (by decide))).trans (fs))) ((hn_s).trans (by omega)) (((hn_n (Or.inr (by decide))).trans (hn_s)).trans (by omega)) ⟨by omega, a2, fun h h2 => by omega, fun h h2 => by omega, fun h h2 => by omega, fun h h2 => by omega⟩ (fun g => by exfalso; omega) (fun g g3 => by exfalso; omega) (fun j => Eq.trans (congrArg rv_u8 ((hn_n (Or.inl ne)).trans ((hn_n (Or.inl ne))))) (fb j)) (fun k' al M' g0 g1 g2 g3 g4 g5 g6 g7 g8 g9 => hK k' al M' (er.trans g0) g1 g2 g3 g4 g5 g6 (rv_o.tr (rv_o.tr (rv_o.tr rv_o.rf (rv_o.st (a := m) (j := 13) (by decide))) (rv_o.st (a := m) (j := 4) (by decide))) g7) g8 g9)
                    · skip
                      refine w_aln rfl ?_
                      refine w_bp ?_
                      refine w_aln rfl ?_
                      refine w_gi hm rfl (by decide) rfl ((rfl : _ = M.1 m 14)) ?_
                      refine w_mulw ?_
                      intro z24 hz24 ez24
                      refine w_aln rfl ?_
                      refine w_cv (st := [.inl z24, .inr (.inr (some m))]) rfl hm rfl (Nat.le_of_ble_eq_true rfl) (fun kk h => h) (r_X12_peek (d := d) (p := q + k) (B := B) hm hb hn f1 (fs) (fh) fb (fun c => ?_) (fun c => by exfalso; omega))
                      · skip
                        refine w_addw ?_
                        intro z25 hz25 ez25
                        refine w_bp ?_
                        refine w_subw ?_
                        intro z26 hz26 ez26
                        refine w_pi hm rfl (by decide) rfl (fun q => by cases q) ?_
                        refine w_aln rfl ?_
                        refine w_dupr ?_
                        refine w_gi hm rfl (by decide) rfl ((hn_n (Or.inr (by decide))).trans (fk)) ?_
                        refine w_ic ?_
                        refine w_add ⟨by show (-2147483648 : Int) ≤ (k : Int) + 1; omega, by show (k : Int) + 1 < (2147483648 : Int); omega⟩ ?_
                        refine w_pi hm rfl (by decide) rfl (fun q => by cases q) ?_
                        refine w_aln rfl ?_
                        refine w_dupr ?_
                        refine w_gi hm rfl (by decide) rfl ((hn_n (Or.inr (by decide))).trans ((hn_n (Or.inr (by decide))).trans (fh))) ?_
                        refine w_ic ?_
                        refine w_add ⟨by show (-2147483648 : Int) ≤ ((q + k : Nat) : Int) + 1; omega, by show ((q + k : Nat) : Int) + 1 < (2147483648 : Int); omega⟩ ?_
                        refine w_pi hm rfl (by decide) rfl (fun q => by cases q) ?_
                        refine w_goto ?_
                        have en := rv_nl_s (q := q) (k := k) (rv_le_t l1 l2)
                        have er : rv_rn B n (f + 1) (q + k) = rv_rn B n f (q + (k + 1)) := if_pos ⟨by omega, rv_an_l l1 l2⟩
                        exact ih (k + 1) 1 _ cb sb (by omega) (by omega) f1 ((hn_n (Or.inr (by decide))).trans ((hn_n (Or.inr (by decide))).trans ((hn_n (Or.inr (by decide))).trans (fs)))) ((hn_s).trans (by omega)) (((hn_n (Or.inr (by decide))).trans (hn_s)).trans (by omega)) ⟨by omega, a2, fun h h2 => by omega, fun h h2 => by omega, fun h h2 => by omega, fun h h2 => by omega⟩ (fun g => by exfalso; omega) (fun g g3 => by exfalso; omega) (fun j => Eq.trans (congrArg rv_u8 ((hn_n (Or.inl ne)).trans ((hn_n (Or.inl ne)).trans ((hn_n (Or.inl ne)))))) (fb j)) (fun k' al M' g0 g1 g2 g3 g4 g5 g6 g7 g8 g9 => hK k' al M' (er.trans g0) g1 g2 g3 g4 g5 g6 (rv_o.tr (rv_o.tr (rv_o.tr (rv_o.tr rv_o.rf (rv_o.st (a := m) (j := 14) (by decide))) (rv_o.st (a := m) (j := 13) (by decide))) (rv_o.st (a := m) (j := 4) (by decide))) g7) g8 g9)
                  · skip
                    refine w_aln rfl ?_
                    refine w_aln rfl ?_
                    refine w_gl hm rfl (by decide) rfl ((rfl : _ = M.2.1 m 17)) ?_
                    refine w_bp ?_
                    refine w_lshl ?_
                    refine w_aln rfl ?_
                    refine w_cv (st := [.inr (.inl ((M.2.1 m 17) <<< ((Int32.ofInt 8).toInt64 &&& 63))), .inr (.inr (some m))]) rfl hm rfl (Nat.le_of_ble_eq_true rfl) (fun kk h => h) (r_X12_peek (d := d) (p := q + k) (B := B) hm hb hn f1 (fs) (fh) fb (fun c => ?_) (fun c => by exfalso; omega))
                    · skip
                      refine w_i2l ?_
                      refine w_lor ?_
                      refine w_pl hm rfl (by decide) rfl ?_
                      refine w_aln rfl ?_
                      refine w_gi hm rfl (by decide) rfl (fk) ?_
                      refine w_ic ?_
                      refine w_cmge (fun c27 => ?_) (fun c27 => ?_)
                      · skip
                        refine w_aln rfl ?_
                        refine w_dupr ?_
                        refine w_gi hm rfl (by decide) rfl (fk) ?_
                        refine w_ic ?_
                        refine w_add ⟨by show (-2147483648 : Int) ≤ (k : Int) + 1; omega, by show (k : Int) + 1 < (2147483648 : Int); omega⟩ ?_
                        refine w_pi hm rfl (by decide) rfl (fun q => by cases q) ?_
                        refine w_aln rfl ?_
                        refine w_dupr ?_
                        refine w_gi hm rfl (by decide) rfl ((hn_n (Or.inr (by decide))).trans (fh)) ?_
                        refine w_ic ?_
                        refine w_add ⟨by show (-2147483648 : Int) ≤ ((q + k : Nat) : Int) + 1; omega, by show ((q + k : Nat) : Int) + 1 < (2147483648 : Int); omega⟩ ?_
                        refine w_pi hm rfl (by decide) rfl (fun q => by cases q) ?_
                        refine w_goto ?_
                        have en := rv_nl_s (q := q) (k := k) (rv_le_t l1 l2)
                        have er : rv_rn B n (f + 1) (q + k) = rv_rn B n f (q + (k + 1)) := if_pos ⟨by omega, rv_an_l l1 l2⟩
                        exact ih (k + 1) 1 _ cb sb (by omega) (by omega) f1 ((hn_n (Or.inr (by decide))).trans ((hn_n (Or.inr (by decide))).trans (fs))) ((hn_s).trans (by omega)) (((hn_n (Or.inr (by decide))).trans (hn_s)).trans (by omega)) ⟨by omega, a2, fun h h2 => by omega, fun h h2 => by omega, fun h h2 => by omega, fun h h2 => by omega⟩ (fun g => wz_sl.trans (by rw [hw8 (by omega)]; rfl)) (fun g g3 => by exfalso; omega) (fun j => Eq.trans (congrArg rv_u8 ((hn_n (Or.inl ne)).trans ((hn_n (Or.inl ne))))) (fb j)) (fun k' al M' g0 g1 g2 g3 g4 g5 g6 g7 g8 g9 => hK k' al M' (er.trans g0) g1 g2 g3 g4 g5 g6 (rv_o.tr (rv_o.tr (rv_o.tr rv_o.rf (rv_o.st (a := m) (j := 13) (by decide))) (rv_o.st (a := m) (j := 4) (by decide))) g7) g8 (fun a j g => (g9 a j g).trans (wz_nl (Decidable.not_and_iff_or_not.mp g))))
                      · skip
                        refine w_aln rfl ?_
                        refine w_bp ?_
                        refine w_aln rfl ?_
                        refine w_gi hm rfl (by decide) rfl ((rfl : _ = M.1 m 14)) ?_
                        refine w_mulw ?_
                        intro z28 hz28 ez28
                        refine w_aln rfl ?_
                        refine w_cv (st := [.inl z28, .inr (.inr (some m))]) rfl hm rfl (Nat.le_of_ble_eq_true rfl) (fun kk h => h) (r_X12_peek (d := d) (p := q + k) (B := B) hm hb hn f1 (fs) (fh) fb (fun c => ?_) (fun c => by exfalso; omega))
                        · skip
                          refine w_addw ?_
                          intro z29 hz29 ez29
                          refine w_bp ?_
                          refine w_subw ?_
                          intro z30 hz30 ez30
                          refine w_pi hm rfl (by decide) rfl (fun q => by cases q) ?_
                          refine w_aln rfl ?_
                          refine w_dupr ?_
                          refine w_gi hm rfl (by decide) rfl ((hn_n (Or.inr (by decide))).trans (fk)) ?_
                          refine w_ic ?_
                          refine w_add ⟨by show (-2147483648 : Int) ≤ (k : Int) + 1; omega, by show (k : Int) + 1 < (2147483648 : Int); omega⟩ ?_
                          refine w_pi hm rfl (by decide) rfl (fun q => by cases q) ?_
                          refine w_aln rfl ?_
                          refine w_dupr ?_
                          refine w_gi hm rfl (by decide) rfl ((hn_n (Or.inr (by decide))).trans ((hn_n (Or.inr (by decide))).trans (fh))) ?_
                          refine w_ic ?_
                          refine w_add ⟨by show (-2147483648 : Int) ≤ ((q + k : Nat) : Int) + 1; omega, by show ((q + k : Nat) : Int) + 1 < (2147483648 : Int); omega⟩ ?_
                          refine w_pi hm rfl (by decide) rfl (fun q => by cases q) ?_
                          refine w_goto ?_
                          have en := rv_nl_s (q := q) (k := k) (rv_le_t l1 l2)
                          have er : rv_rn B n (f + 1) (q + k) = rv_rn B n f (q + (k + 1)) := if_pos ⟨by omega, rv_an_l l1 l2⟩
                          exact ih (k + 1) 1 _ cb sb (by omega) (by omega) f1 ((hn_n (Or.inr (by decide))).trans ((hn_n (Or.inr (by decide))).trans ((hn_n (Or.inr (by decide))).trans (fs)))) ((hn_s).trans (by omega)) (((hn_n (Or.inr (by decide))).trans (hn_s)).trans (by omega)) ⟨by omega, a2, fun h h2 => by omega, fun h h2 => by omega, fun h h2 => by omega, fun h h2 => by omega⟩ (fun g => wz_sl.trans (by rw [hw8 (by omega)]; rfl)) (fun g g3 => by exfalso; omega) (fun j => Eq.trans (congrArg rv_u8 ((hn_n (Or.inl ne)).trans ((hn_n (Or.inl ne)).trans ((hn_n (Or.inl ne)))))) (fb j)) (fun k' al M' g0 g1 g2 g3 g4 g5 g6 g7 g8 g9 => hK k' al M' (er.trans g0) g1 g2 g3 g4 g5 g6 (rv_o.tr (rv_o.tr (rv_o.tr (rv_o.tr rv_o.rf (rv_o.st (a := m) (j := 14) (by decide))) (rv_o.st (a := m) (j := 13) (by decide))) (rv_o.st (a := m) (j := 4) (by decide))) g7) g8 (fun a j g => (g9 a j g).trans (wz_nl (Decidable.not_and_iff_or_not.mp g))))
        · exfalso; omega
      · skip
        refine w_ifne (fun c31 => ?_) (fun c31 => ?_)
        · exfalso; omega
        · skip
          refine w_aln rfl ?_
          refine w_cv (st := []) rfl hm rfl (Nat.le_of_ble_eq_true rfl) (fun kk h => h) (r_X12_peek (d := d) (p := q + k) (B := B) hm hb hn f1 (fs) (fh) fb (fun c => ?_) (fun c => by exfalso; omega))
          · skip
            refine w_cs (st := []) rfl (Nat.le_of_ble_eq_true rfl) (fun kk h => h) (r_X12_isDigit (d := d) (fun d1 d2 => ?_) (fun d0 => ?_))
            · skip
              refine w_ifeq (fun c32 => ?_) (fun c32 => ?_)
              · exfalso; omega
              · skip
                refine w_iln rfl ?_
                refine w_ifeq (fun c33 => ?_) (fun c33 => ?_)
                · skip
                  refine w_ic ?_
                  refine w_isn ?_
                  refine w_aln rfl ?_
                  refine w_gi hm rfl (by decide) rfl (fk) ?_
                  refine w_bp ?_
                  refine w_cmge (fun c34 => ?_) (fun c34 => ?_)
                  · skip
                    refine w_aln rfl ?_
                    refine w_gi hm rfl (by decide) rfl (fk) ?_
                    refine w_ic ?_
                    refine w_cmge (fun c35 => ?_) (fun c35 => ?_)
                    · skip
                      refine w_aln rfl ?_
                      refine w_dupr ?_
                      refine w_gi hm rfl (by decide) rfl (fk) ?_
                      refine w_ic ?_
                      refine w_add ⟨by show (-2147483648 : Int) ≤ (k : Int) + 1; omega, by show (k : Int) + 1 < (2147483648 : Int); omega⟩ ?_
                      refine w_pi hm rfl (by decide) rfl (fun q => by cases q) ?_
                      refine w_aln rfl ?_
                      refine w_dupr ?_
                      refine w_gi hm rfl (by decide) rfl ((hn_n (Or.inr (by decide))).trans (fh)) ?_
                      refine w_ic ?_
                      refine w_add ⟨by show (-2147483648 : Int) ≤ ((q + k : Nat) : Int) + 1; omega, by show ((q + k : Nat) : Int) + 1 < (2147483648 : Int); omega⟩ ?_
                      refine w_pi hm rfl (by decide) rfl (fun q => by cases q) ?_
                      refine w_goto ?_
                      have en := rv_nl_n (q := q) (k := k) (rv_le_f l0)
                      have er : rv_rn B n (f + 1) (q + k) = rv_rn B n f (q + (k + 1)) := if_pos ⟨by omega, rv_an_d d1 d2⟩
                      exact ih (k + 1) 0 _ cb sb (by omega) (by omega) f1 ((hn_n (Or.inr (by decide))).trans ((hn_n (Or.inr (by decide))).trans (fs))) ((hn_s).trans (by omega)) (((hn_n (Or.inr (by decide))).trans (hn_s)).trans (by omega)) ⟨by omega, a2, fun h h2 => by omega, fun h h2 => by omega, fun h h2 => by omega, fun h h2 => by omega⟩ (fun g => by exfalso; omega) (fun g g3 => by exfalso; omega) (fun j => Eq.trans (congrArg rv_u8 ((hn_n (Or.inl ne)).trans ((hn_n (Or.inl ne))))) (fb j)) (fun k' al M' g0 g1 g2 g3 g4 g5 g6 g7 g8 g9 => hK k' al M' (er.trans g0) g1 g2 g3 g4 g5 g6 (rv_o.tr (rv_o.tr (rv_o.tr rv_o.rf (rv_o.st (a := m) (j := 13) (by decide))) (rv_o.st (a := m) (j := 4) (by decide))) g7) g8 g9)
                    · skip
                      refine w_aln rfl ?_
                      refine w_bp ?_
                      refine w_aln rfl ?_
                      refine w_gi hm rfl (by decide) rfl ((rfl : _ = M.1 m 14)) ?_
                      refine w_mulw ?_
                      intro z36 hz36 ez36
                      refine w_aln rfl ?_
                      refine w_cv (st := [.inl z36, .inr (.inr (some m))]) rfl hm rfl (Nat.le_of_ble_eq_true rfl) (fun kk h => h) (r_X12_peek (d := d) (p := q + k) (B := B) hm hb hn f1 (fs) (fh) fb (fun c => ?_) (fun c => by exfalso; omega))
                      · skip
                        refine w_addw ?_
                        intro z37 hz37 ez37
                        refine w_bp ?_
                        refine w_subw ?_
                        intro z38 hz38 ez38
                        refine w_pi hm rfl (by decide) rfl (fun q => by cases q) ?_
                        refine w_aln rfl ?_
                        refine w_dupr ?_
                        refine w_gi hm rfl (by decide) rfl ((hn_n (Or.inr (by decide))).trans (fk)) ?_
                        refine w_ic ?_
                        refine w_add ⟨by show (-2147483648 : Int) ≤ (k : Int) + 1; omega, by show (k : Int) + 1 < (2147483648 : Int); omega⟩ ?_
                        refine w_pi hm rfl (by decide) rfl (fun q => by cases q) ?_
                        refine w_aln rfl ?_
                        refine w_dupr ?_
                        refine w_gi hm rfl (by decide) rfl ((hn_n (Or.inr (by decide))).trans ((hn_n (Or.inr (by decide))).trans (fh))) ?_
                        refine w_ic ?_
                        refine w_add ⟨by show (-2147483648 : Int) ≤ ((q + k : Nat) : Int) + 1; omega, by show ((q + k : Nat) : Int) + 1 < (2147483648 : Int); omega⟩ ?_
                        refine w_pi hm rfl (by decide) rfl (fun q => by cases q) ?_
                        refine w_goto ?_
                        have en := rv_nl_n (q := q) (k := k) (rv_le_f l0)
                        have er : rv_rn B n (f + 1) (q + k) = rv_rn B n f (q + (k + 1)) := if_pos ⟨by omega, rv_an_d d1 d2⟩
                        exact ih (k + 1) 0 _ cb sb (by omega) (by omega) f1 ((hn_n (Or.inr (by decide))).trans ((hn_n (Or.inr (by decide))).trans ((hn_n (Or.inr (by decide))).trans (fs)))) ((hn_s).trans (by omega)) (((hn_n (Or.inr (by decide))).trans (hn_s)).trans (by omega)) ⟨by omega, a2, fun h h2 => by omega, fun h h2 => by omega, fun h h2 => by omega, fun h h2 => by omega⟩ (fun g => by exfalso; omega) (fun g g3 => by
                          obtain ⟨u1, u2, u3, u4, u5, u6⟩ := hu (by omega) (by omega)
                          have q1 := rv_wm ez36 ⟨by omega, by omega⟩
                          have q2 := rv_wa ez37 ⟨by omega, by omega⟩
                          have q3 := rv_ws ez38 ⟨by omega, by omega⟩
                          have q4 : ((mj_p0 (mj_p0 (mj_p0 M m 14 z38) m 13 ((k : Int) + 1)) m 4 (((q + k : Nat) : Int) + 1))).1 m 14 = z38 := (hn_n (Or.inr (by decide))).trans ((hn_n (Or.inr (by decide))).trans (hn_s))
                          rw [q4]
                          refine ⟨?_, by omega, fun h => by omega, fun h => by omega, fun h => by omega, by omega⟩
                          show _ = 10 * rv_nu B q k + B (q + k) - 48
                          omega) (fun j => Eq.trans (congrArg rv_u8 ((hn_n (Or.inl ne)).trans ((hn_n (Or.inl ne)).trans ((hn_n (Or.inl ne)))))) (fb j)) (fun k' al M' g0 g1 g2 g3 g4 g5 g6 g7 g8 g9 => hK k' al M' (er.trans g0) g1 g2 g3 g4 g5 g6 (rv_o.tr (rv_o.tr (rv_o.tr (rv_o.tr rv_o.rf (rv_o.st (a := m) (j := 14) (by decide))) (rv_o.st (a := m) (j := 13) (by decide))) (rv_o.st (a := m) (j := 4) (by decide))) g7) g8 g9)
                  · skip
                    refine w_aln rfl ?_
                    refine w_aln rfl ?_
                    refine w_gl hm rfl (by decide) rfl ((rfl : _ = M.2.1 m 17)) ?_
                    refine w_bp ?_
                    refine w_lshl ?_
                    refine w_aln rfl ?_
                    refine w_cv (st := [.inr (.inl ((M.2.1 m 17) <<< ((Int32.ofInt 8).toInt64 &&& 63))), .inr (.inr (some m))]) rfl hm rfl (Nat.le_of_ble_eq_true rfl) (fun kk h => h) (r_X12_peek (d := d) (p := q + k) (B := B) hm hb hn f1 (fs) (fh) fb (fun c => ?_) (fun c => by exfalso; omega))
                    · skip
                      refine w_i2l ?_
                      refine w_lor ?_
                      refine w_pl hm rfl (by decide) rfl ?_
                      refine w_aln rfl ?_
                      refine w_gi hm rfl (by decide) rfl (fk) ?_
                      refine w_ic ?_
                      refine w_cmge (fun c39 => ?_) (fun c39 => ?_)
                      · skip
                        refine w_aln rfl ?_
                        refine w_dupr ?_
                        refine w_gi hm rfl (by decide) rfl (fk) ?_
                        refine w_ic ?_
                        refine w_add ⟨by show (-2147483648 : Int) ≤ (k : Int) + 1; omega, by show (k : Int) + 1 < (2147483648 : Int); omega⟩ ?_
                        refine w_pi hm rfl (by decide) rfl (fun q => by cases q) ?_
                        refine w_aln rfl ?_
                        refine w_dupr ?_
                        refine w_gi hm rfl (by decide) rfl ((hn_n (Or.inr (by decide))).trans (fh)) ?_
                        refine w_ic ?_
                        refine w_add ⟨by show (-2147483648 : Int) ≤ ((q + k : Nat) : Int) + 1; omega, by show ((q + k : Nat) : Int) + 1 < (2147483648 : Int); omega⟩ ?_
                        refine w_pi hm rfl (by decide) rfl (fun q => by cases q) ?_
                        refine w_goto ?_
                        have en := rv_nl_n (q := q) (k := k) (rv_le_f l0)
                        have er : rv_rn B n (f + 1) (q + k) = rv_rn B n f (q + (k + 1)) := if_pos ⟨by omega, rv_an_d d1 d2⟩
                        exact ih (k + 1) 0 _ cb sb (by omega) (by omega) f1 ((hn_n (Or.inr (by decide))).trans ((hn_n (Or.inr (by decide))).trans (fs))) ((hn_s).trans (by omega)) (((hn_n (Or.inr (by decide))).trans (hn_s)).trans (by omega)) ⟨by omega, a2, fun h h2 => by omega, fun h h2 => by omega, fun h h2 => by omega, fun h h2 => by omega⟩ (fun g => wz_sl.trans (by rw [hw8 (by omega)]; rfl)) (fun g g3 => by exfalso; omega) (fun j => Eq.trans (congrArg rv_u8 ((hn_n (Or.inl ne)).trans ((hn_n (Or.inl ne))))) (fb j)) (fun k' al M' g0 g1 g2 g3 g4 g5 g6 g7 g8 g9 => hK k' al M' (er.trans g0) g1 g2 g3 g4 g5 g6 (rv_o.tr (rv_o.tr (rv_o.tr rv_o.rf (rv_o.st (a := m) (j := 13) (by decide))) (rv_o.st (a := m) (j := 4) (by decide))) g7) g8 (fun a j g => (g9 a j g).trans (wz_nl (Decidable.not_and_iff_or_not.mp g))))
                      · skip
                        refine w_aln rfl ?_
                        refine w_bp ?_
                        refine w_aln rfl ?_
                        refine w_gi hm rfl (by decide) rfl ((rfl : _ = M.1 m 14)) ?_
                        refine w_mulw ?_
                        intro z40 hz40 ez40
                        refine w_aln rfl ?_
                        refine w_cv (st := [.inl z40, .inr (.inr (some m))]) rfl hm rfl (Nat.le_of_ble_eq_true rfl) (fun kk h => h) (r_X12_peek (d := d) (p := q + k) (B := B) hm hb hn f1 (fs) (fh) fb (fun c => ?_) (fun c => by exfalso; omega))
                        · skip
                          refine w_addw ?_
                          intro z41 hz41 ez41
                          refine w_bp ?_
                          refine w_subw ?_
                          intro z42 hz42 ez42
                          refine w_pi hm rfl (by decide) rfl (fun q => by cases q) ?_
                          refine w_aln rfl ?_
                          refine w_dupr ?_
                          refine w_gi hm rfl (by decide) rfl ((hn_n (Or.inr (by decide))).trans (fk)) ?_
                          refine w_ic ?_
                          refine w_add ⟨by show (-2147483648 : Int) ≤ (k : Int) + 1; omega, by show (k : Int) + 1 < (2147483648 : Int); omega⟩ ?_
                          refine w_pi hm rfl (by decide) rfl (fun q => by cases q) ?_
                          refine w_aln rfl ?_
                          refine w_dupr ?_
                          refine w_gi hm rfl (by decide) rfl ((hn_n (Or.inr (by decide))).trans ((hn_n (Or.inr (by decide))).trans (fh))) ?_
                          refine w_ic ?_
                          refine w_add ⟨by show (-2147483648 : Int) ≤ ((q + k : Nat) : Int) + 1; omega, by show ((q + k : Nat) : Int) + 1 < (2147483648 : Int); omega⟩ ?_
                          refine w_pi hm rfl (by decide) rfl (fun q => by cases q) ?_
                          refine w_goto ?_
                          have en := rv_nl_n (q := q) (k := k) (rv_le_f l0)
                          have er : rv_rn B n (f + 1) (q + k) = rv_rn B n f (q + (k + 1)) := if_pos ⟨by omega, rv_an_d d1 d2⟩
                          exact ih (k + 1) 0 _ cb sb (by omega) (by omega) f1 ((hn_n (Or.inr (by decide))).trans ((hn_n (Or.inr (by decide))).trans ((hn_n (Or.inr (by decide))).trans (fs)))) ((hn_s).trans (by omega)) (((hn_n (Or.inr (by decide))).trans (hn_s)).trans (by omega)) ⟨by omega, a2, fun h h2 => by omega, fun h h2 => by omega, fun h h2 => by omega, fun h h2 => by omega⟩ (fun g => wz_sl.trans (by rw [hw8 (by omega)]; rfl)) (fun g g3 => by
                            obtain ⟨u1, u2, u3, u4, u5, u6⟩ := hu (by omega) (by omega)
                            have q1 := rv_wm ez40 ⟨by omega, by omega⟩
                            have q2 := rv_wa ez41 ⟨by omega, by omega⟩
                            have q3 := rv_ws ez42 ⟨by omega, by omega⟩
                            have q4 : ((mj_p0 (mj_p0 (mj_p0 (mj_p1 M m 17 (((M.2.1 m 17) <<< ((Int32.ofInt 8).toInt64 &&& 63)) ||| ((Int32.ofInt (B (q + k))).toInt64))) m 14 z42) m 13 ((k : Int) + 1)) m 4 (((q + k : Nat) : Int) + 1))).1 m 14 = z42 := (hn_n (Or.inr (by decide))).trans ((hn_n (Or.inr (by decide))).trans (hn_s))
                            rw [q4]
                            refine ⟨?_, by omega, fun h => by omega, fun h => by omega, fun h => by omega, by omega⟩
                            show _ = 10 * rv_nu B q k + B (q + k) - 48
                            omega) (fun j => Eq.trans (congrArg rv_u8 ((hn_n (Or.inl ne)).trans ((hn_n (Or.inl ne)).trans ((hn_n (Or.inl ne)))))) (fb j)) (fun k' al M' g0 g1 g2 g3 g4 g5 g6 g7 g8 g9 => hK k' al M' (er.trans g0) g1 g2 g3 g4 g5 g6 (rv_o.tr (rv_o.tr (rv_o.tr (rv_o.tr rv_o.rf (rv_o.st (a := m) (j := 14) (by decide))) (rv_o.st (a := m) (j := 13) (by decide))) (rv_o.st (a := m) (j := 4) (by decide))) g7) g8 (fun a j g => (g9 a j g).trans (wz_nl (Decidable.not_and_iff_or_not.mp g))))
                · skip
                  refine w_aln rfl ?_
                  refine w_cv (st := []) rfl hm rfl (Nat.le_of_ble_eq_true rfl) (fun kk h => h) (r_X12_peek (d := d) (p := q + k) (B := B) hm hb hn f1 (fs) (fh) fb (fun c => ?_) (fun c => by exfalso; omega))
                  · skip
                    refine w_cs (st := []) rfl (Nat.le_of_ble_eq_true rfl) (fun kk h => h) (r_X12_isSmall (d := d) (fun a b => by exfalso; omega) (fun a => ?_))
                    · skip
                      refine w_iln rfl ?_
                      refine w_cmne (fun c43 => ?_) (fun c43 => ?_)
                      · skip
                        refine w_ic ?_
                        refine w_isn ?_
                        refine w_aln rfl ?_
                        refine w_gi hm rfl (by decide) rfl (fk) ?_
                        refine w_bp ?_
                        refine w_cmge (fun c44 => ?_) (fun c44 => ?_)
                        · skip
                          refine w_aln rfl ?_
                          refine w_gi hm rfl (by decide) rfl (fk) ?_
                          refine w_ic ?_
                          refine w_cmge (fun c45 => ?_) (fun c45 => ?_)
                          · skip
                            refine w_aln rfl ?_
                            refine w_dupr ?_
                            refine w_gi hm rfl (by decide) rfl (fk) ?_
                            refine w_ic ?_
                            refine w_add ⟨by show (-2147483648 : Int) ≤ (k : Int) + 1; omega, by show (k : Int) + 1 < (2147483648 : Int); omega⟩ ?_
                            refine w_pi hm rfl (by decide) rfl (fun q => by cases q) ?_
                            refine w_aln rfl ?_
                            refine w_dupr ?_
                            refine w_gi hm rfl (by decide) rfl ((hn_n (Or.inr (by decide))).trans (fh)) ?_
                            refine w_ic ?_
                            refine w_add ⟨by show (-2147483648 : Int) ≤ ((q + k : Nat) : Int) + 1; omega, by show ((q + k : Nat) : Int) + 1 < (2147483648 : Int); omega⟩ ?_
                            refine w_pi hm rfl (by decide) rfl (fun q => by cases q) ?_
                            refine w_goto ?_
                            have en := rv_nl_n (q := q) (k := k) (rv_le_f l0)
                            have er : rv_rn B n (f + 1) (q + k) = rv_rn B n f (q + (k + 1)) := if_pos ⟨by omega, rv_an_d d1 d2⟩
                            exact ih (k + 1) 0 _ cb sb (by omega) (by omega) f1 ((hn_n (Or.inr (by decide))).trans ((hn_n (Or.inr (by decide))).trans (fs))) ((hn_s).trans (by omega)) (((hn_n (Or.inr (by decide))).trans (hn_s)).trans (by omega)) ⟨by omega, a2, fun h h2 => by omega, fun h h2 => by omega, fun h h2 => by omega, fun h h2 => by omega⟩ (fun g => by exfalso; omega) (fun g g3 => by exfalso; omega) (fun j => Eq.trans (congrArg rv_u8 ((hn_n (Or.inl ne)).trans ((hn_n (Or.inl ne))))) (fb j)) (fun k' al M' g0 g1 g2 g3 g4 g5 g6 g7 g8 g9 => hK k' al M' (er.trans g0) g1 g2 g3 g4 g5 g6 (rv_o.tr (rv_o.tr (rv_o.tr rv_o.rf (rv_o.st (a := m) (j := 13) (by decide))) (rv_o.st (a := m) (j := 4) (by decide))) g7) g8 g9)
                          · skip
                            refine w_aln rfl ?_
                            refine w_bp ?_
                            refine w_aln rfl ?_
                            refine w_gi hm rfl (by decide) rfl ((rfl : _ = M.1 m 14)) ?_
                            refine w_mulw ?_
                            intro z46 hz46 ez46
                            refine w_aln rfl ?_
                            refine w_cv (st := [.inl z46, .inr (.inr (some m))]) rfl hm rfl (Nat.le_of_ble_eq_true rfl) (fun kk h => h) (r_X12_peek (d := d) (p := q + k) (B := B) hm hb hn f1 (fs) (fh) fb (fun c => ?_) (fun c => by exfalso; omega))
                            · skip
                              refine w_addw ?_
                              intro z47 hz47 ez47
                              refine w_bp ?_
                              refine w_subw ?_
                              intro z48 hz48 ez48
                              refine w_pi hm rfl (by decide) rfl (fun q => by cases q) ?_
                              refine w_aln rfl ?_
                              refine w_dupr ?_
                              refine w_gi hm rfl (by decide) rfl ((hn_n (Or.inr (by decide))).trans (fk)) ?_
                              refine w_ic ?_
                              refine w_add ⟨by show (-2147483648 : Int) ≤ (k : Int) + 1; omega, by show (k : Int) + 1 < (2147483648 : Int); omega⟩ ?_
                              refine w_pi hm rfl (by decide) rfl (fun q => by cases q) ?_
                              refine w_aln rfl ?_
                              refine w_dupr ?_
                              refine w_gi hm rfl (by decide) rfl ((hn_n (Or.inr (by decide))).trans ((hn_n (Or.inr (by decide))).trans (fh))) ?_
                              refine w_ic ?_
                              refine w_add ⟨by show (-2147483648 : Int) ≤ ((q + k : Nat) : Int) + 1; omega, by show ((q + k : Nat) : Int) + 1 < (2147483648 : Int); omega⟩ ?_
                              refine w_pi hm rfl (by decide) rfl (fun q => by cases q) ?_
                              refine w_goto ?_
                              have en := rv_nl_n (q := q) (k := k) (rv_le_f l0)
                              have er : rv_rn B n (f + 1) (q + k) = rv_rn B n f (q + (k + 1)) := if_pos ⟨by omega, rv_an_d d1 d2⟩
                              exact ih (k + 1) 0 _ cb sb (by omega) (by omega) f1 ((hn_n (Or.inr (by decide))).trans ((hn_n (Or.inr (by decide))).trans ((hn_n (Or.inr (by decide))).trans (fs)))) ((hn_s).trans (by omega)) (((hn_n (Or.inr (by decide))).trans (hn_s)).trans (by omega)) ⟨by omega, a2, fun h h2 => by omega, fun h h2 => by omega, fun h h2 => by omega, fun h h2 => by omega⟩ (fun g => by exfalso; omega) (fun g g3 => by
                                obtain ⟨u1, u2, u3, u4, u5, u6⟩ := hu (by omega) (by omega)
                                have q1 := rv_wm ez46 ⟨by omega, by omega⟩
                                have q2 := rv_wa ez47 ⟨by omega, by omega⟩
                                have q3 := rv_ws ez48 ⟨by omega, by omega⟩
                                have q4 : ((mj_p0 (mj_p0 (mj_p0 M m 14 z48) m 13 ((k : Int) + 1)) m 4 (((q + k : Nat) : Int) + 1))).1 m 14 = z48 := (hn_n (Or.inr (by decide))).trans ((hn_n (Or.inr (by decide))).trans (hn_s))
                                rw [q4]
                                refine ⟨?_, by omega, fun h => by omega, fun h => by omega, fun h => by omega, by omega⟩
                                show _ = 10 * rv_nu B q k + B (q + k) - 48
                                omega) (fun j => Eq.trans (congrArg rv_u8 ((hn_n (Or.inl ne)).trans ((hn_n (Or.inl ne)).trans ((hn_n (Or.inl ne)))))) (fb j)) (fun k' al M' g0 g1 g2 g3 g4 g5 g6 g7 g8 g9 => hK k' al M' (er.trans g0) g1 g2 g3 g4 g5 g6 (rv_o.tr (rv_o.tr (rv_o.tr (rv_o.tr rv_o.rf (rv_o.st (a := m) (j := 14) (by decide))) (rv_o.st (a := m) (j := 13) (by decide))) (rv_o.st (a := m) (j := 4) (by decide))) g7) g8 g9)
                        · skip
                          refine w_aln rfl ?_
                          refine w_aln rfl ?_
                          refine w_gl hm rfl (by decide) rfl ((rfl : _ = M.2.1 m 17)) ?_
                          refine w_bp ?_
                          refine w_lshl ?_
                          refine w_aln rfl ?_
                          refine w_cv (st := [.inr (.inl ((M.2.1 m 17) <<< ((Int32.ofInt 8).toInt64 &&& 63))), .inr (.inr (some m))]) rfl hm rfl (Nat.le_of_ble_eq_true rfl) (fun kk h => h) (r_X12_peek (d := d) (p := q + k) (B := B) hm hb hn f1 (fs) (fh) fb (fun c => ?_) (fun c => by exfalso; omega))
                          · skip
                            refine w_i2l ?_
                            refine w_lor ?_
                            refine w_pl hm rfl (by decide) rfl ?_
                            refine w_aln rfl ?_
                            refine w_gi hm rfl (by decide) rfl (fk) ?_
                            refine w_ic ?_
                            refine w_cmge (fun c49 => ?_) (fun c49 => ?_)
                            · skip
                              refine w_aln rfl ?_
                              refine w_dupr ?_
                              refine w_gi hm rfl (by decide) rfl (fk) ?_
                              refine w_ic ?_
                              refine w_add ⟨by show (-2147483648 : Int) ≤ (k : Int) + 1; omega, by show (k : Int) + 1 < (2147483648 : Int); omega⟩ ?_
                              refine w_pi hm rfl (by decide) rfl (fun q => by cases q) ?_
                              refine w_aln rfl ?_
                              refine w_dupr ?_
                              refine w_gi hm rfl (by decide) rfl ((hn_n (Or.inr (by decide))).trans (fh)) ?_
                              refine w_ic ?_
                              refine w_add ⟨by show (-2147483648 : Int) ≤ ((q + k : Nat) : Int) + 1; omega, by show ((q + k : Nat) : Int) + 1 < (2147483648 : Int); omega⟩ ?_
                              refine w_pi hm rfl (by decide) rfl (fun q => by cases q) ?_
                              refine w_goto ?_
                              have en := rv_nl_n (q := q) (k := k) (rv_le_f l0)
                              have er : rv_rn B n (f + 1) (q + k) = rv_rn B n f (q + (k + 1)) := if_pos ⟨by omega, rv_an_d d1 d2⟩
                              exact ih (k + 1) 0 _ cb sb (by omega) (by omega) f1 ((hn_n (Or.inr (by decide))).trans ((hn_n (Or.inr (by decide))).trans (fs))) ((hn_s).trans (by omega)) (((hn_n (Or.inr (by decide))).trans (hn_s)).trans (by omega)) ⟨by omega, a2, fun h h2 => by omega, fun h h2 => by omega, fun h h2 => by omega, fun h h2 => by omega⟩ (fun g => wz_sl.trans (by rw [hw8 (by omega)]; rfl)) (fun g g3 => by exfalso; omega) (fun j => Eq.trans (congrArg rv_u8 ((hn_n (Or.inl ne)).trans ((hn_n (Or.inl ne))))) (fb j)) (fun k' al M' g0 g1 g2 g3 g4 g5 g6 g7 g8 g9 => hK k' al M' (er.trans g0) g1 g2 g3 g4 g5 g6 (rv_o.tr (rv_o.tr (rv_o.tr rv_o.rf (rv_o.st (a := m) (j := 13) (by decide))) (rv_o.st (a := m) (j := 4) (by decide))) g7) g8 (fun a j g => (g9 a j g).trans (wz_nl (Decidable.not_and_iff_or_not.mp g))))
                            · skip
                              refine w_aln rfl ?_
                              refine w_bp ?_
                              refine w_aln rfl ?_
                              refine w_gi hm rfl (by decide) rfl ((rfl : _ = M.1 m 14)) ?_
                              refine w_mulw ?_
                              intro z50 hz50 ez50
                              refine w_aln rfl ?_
                              refine w_cv (st := [.inl z50, .inr (.inr (some m))]) rfl hm rfl (Nat.le_of_ble_eq_true rfl) (fun kk h => h) (r_X12_peek (d := d) (p := q + k) (B := B) hm hb hn f1 (fs) (fh) fb (fun c => ?_) (fun c => by exfalso; omega))
                              · skip
                                refine w_addw ?_
                                intro z51 hz51 ez51
                                refine w_bp ?_
                                refine w_subw ?_
                                intro z52 hz52 ez52
                                refine w_pi hm rfl (by decide) rfl (fun q => by cases q) ?_
                                refine w_aln rfl ?_
                                refine w_dupr ?_
                                refine w_gi hm rfl (by decide) rfl ((hn_n (Or.inr (by decide))).trans (fk)) ?_
                                refine w_ic ?_
                                refine w_add ⟨by show (-2147483648 : Int) ≤ (k : Int) + 1; omega, by show (k : Int) + 1 < (2147483648 : Int); omega⟩ ?_
                                refine w_pi hm rfl (by decide) rfl (fun q => by cases q) ?_
                                refine w_aln rfl ?_
                                refine w_dupr ?_
                                refine w_gi hm rfl (by decide) rfl ((hn_n (Or.inr (by decide))).trans ((hn_n (Or.inr (by decide))).trans (fh))) ?_
                                refine w_ic ?_
                                refine w_add ⟨by show (-2147483648 : Int) ≤ ((q + k : Nat) : Int) + 1; omega, by show ((q + k : Nat) : Int) + 1 < (2147483648 : Int); omega⟩ ?_
                                refine w_pi hm rfl (by decide) rfl (fun q => by cases q) ?_
                                refine w_goto ?_
                                have en := rv_nl_n (q := q) (k := k) (rv_le_f l0)
                                have er : rv_rn B n (f + 1) (q + k) = rv_rn B n f (q + (k + 1)) := if_pos ⟨by omega, rv_an_d d1 d2⟩
                                exact ih (k + 1) 0 _ cb sb (by omega) (by omega) f1 ((hn_n (Or.inr (by decide))).trans ((hn_n (Or.inr (by decide))).trans ((hn_n (Or.inr (by decide))).trans (fs)))) ((hn_s).trans (by omega)) (((hn_n (Or.inr (by decide))).trans (hn_s)).trans (by omega)) ⟨by omega, a2, fun h h2 => by omega, fun h h2 => by omega, fun h h2 => by omega, fun h h2 => by omega⟩ (fun g => wz_sl.trans (by rw [hw8 (by omega)]; rfl)) (fun g g3 => by
                                  obtain ⟨u1, u2, u3, u4, u5, u6⟩ := hu (by omega) (by omega)
                                  have q1 := rv_wm ez50 ⟨by omega, by omega⟩
                                  have q2 := rv_wa ez51 ⟨by omega, by omega⟩
                                  have q3 := rv_ws ez52 ⟨by omega, by omega⟩
                                  have q4 : ((mj_p0 (mj_p0 (mj_p0 (mj_p1 M m 17 (((M.2.1 m 17) <<< ((Int32.ofInt 8).toInt64 &&& 63)) ||| ((Int32.ofInt (B (q + k))).toInt64))) m 14 z52) m 13 ((k : Int) + 1)) m 4 (((q + k : Nat) : Int) + 1))).1 m 14 = z52 := (hn_n (Or.inr (by decide))).trans ((hn_n (Or.inr (by decide))).trans (hn_s))
                                  rw [q4]
                                  refine ⟨?_, by omega, fun h => by omega, fun h => by omega, fun h => by omega, by omega⟩
                                  show _ = 10 * rv_nu B q k + B (q + k) - 48
                                  omega) (fun j => Eq.trans (congrArg rv_u8 ((hn_n (Or.inl ne)).trans ((hn_n (Or.inl ne)).trans ((hn_n (Or.inl ne)))))) (fb j)) (fun k' al M' g0 g1 g2 g3 g4 g5 g6 g7 g8 g9 => hK k' al M' (er.trans g0) g1 g2 g3 g4 g5 g6 (rv_o.tr (rv_o.tr (rv_o.tr (rv_o.tr rv_o.rf (rv_o.st (a := m) (j := 14) (by decide))) (rv_o.st (a := m) (j := 13) (by decide))) (rv_o.st (a := m) (j := 4) (by decide))) g7) g8 (fun a j g => (g9 a j g).trans (wz_nl (Decidable.not_and_iff_or_not.mp g))))
                      · skip
                        refine w_ic ?_
                        refine w_goto ?_
                        refine w_isn ?_
                        refine w_aln rfl ?_
                        refine w_gi hm rfl (by decide) rfl (fk) ?_
                        refine w_bp ?_
                        refine w_cmge (fun c53 => ?_) (fun c53 => ?_)
                        · skip
                          refine w_aln rfl ?_
                          refine w_gi hm rfl (by decide) rfl (fk) ?_
                          refine w_ic ?_
                          refine w_cmge (fun c54 => ?_) (fun c54 => ?_)
                          · skip
                            refine w_aln rfl ?_
                            refine w_dupr ?_
                            refine w_gi hm rfl (by decide) rfl (fk) ?_
                            refine w_ic ?_
                            refine w_add ⟨by show (-2147483648 : Int) ≤ (k : Int) + 1; omega, by show (k : Int) + 1 < (2147483648 : Int); omega⟩ ?_
                            refine w_pi hm rfl (by decide) rfl (fun q => by cases q) ?_
                            refine w_aln rfl ?_
                            refine w_dupr ?_
                            refine w_gi hm rfl (by decide) rfl ((hn_n (Or.inr (by decide))).trans (fh)) ?_
                            refine w_ic ?_
                            refine w_add ⟨by show (-2147483648 : Int) ≤ ((q + k : Nat) : Int) + 1; omega, by show ((q + k : Nat) : Int) + 1 < (2147483648 : Int); omega⟩ ?_
                            refine w_pi hm rfl (by decide) rfl (fun q => by cases q) ?_
                            refine w_goto ?_
                            have en := rv_nl_n (q := q) (k := k) (rv_le_f l0)
                            have er : rv_rn B n (f + 1) (q + k) = rv_rn B n f (q + (k + 1)) := if_pos ⟨by omega, rv_an_d d1 d2⟩
                            exact ih (k + 1) 1 _ cb sb (by omega) (by omega) f1 ((hn_n (Or.inr (by decide))).trans ((hn_n (Or.inr (by decide))).trans (fs))) ((hn_s).trans (by omega)) (((hn_n (Or.inr (by decide))).trans (hn_s)).trans (by omega)) ⟨by omega, a2, fun h h2 => by omega, fun h h2 => by omega, fun h h2 => by omega, fun h h2 => by omega⟩ (fun g => by exfalso; omega) (fun g g3 => by exfalso; omega) (fun j => Eq.trans (congrArg rv_u8 ((hn_n (Or.inl ne)).trans ((hn_n (Or.inl ne))))) (fb j)) (fun k' al M' g0 g1 g2 g3 g4 g5 g6 g7 g8 g9 => hK k' al M' (er.trans g0) g1 g2 g3 g4 g5 g6 (rv_o.tr (rv_o.tr (rv_o.tr rv_o.rf (rv_o.st (a := m) (j := 13) (by decide))) (rv_o.st (a := m) (j := 4) (by decide))) g7) g8 g9)
                          · skip
                            refine w_aln rfl ?_
                            refine w_bp ?_
                            refine w_aln rfl ?_
                            refine w_gi hm rfl (by decide) rfl ((rfl : _ = M.1 m 14)) ?_
                            refine w_mulw ?_
                            intro z55 hz55 ez55
                            refine w_aln rfl ?_
                            refine w_cv (st := [.inl z55, .inr (.inr (some m))]) rfl hm rfl (Nat.le_of_ble_eq_true rfl) (fun kk h => h) (r_X12_peek (d := d) (p := q + k) (B := B) hm hb hn f1 (fs) (fh) fb (fun c => ?_) (fun c => by exfalso; omega))
                            · skip
                              refine w_addw ?_
                              intro z56 hz56 ez56
                              refine w_bp ?_
                              refine w_subw ?_
                              intro z57 hz57 ez57
                              refine w_pi hm rfl (by decide) rfl (fun q => by cases q) ?_
                              refine w_aln rfl ?_
                              refine w_dupr ?_
                              refine w_gi hm rfl (by decide) rfl ((hn_n (Or.inr (by decide))).trans (fk)) ?_
                              refine w_ic ?_
                              refine w_add ⟨by show (-2147483648 : Int) ≤ (k : Int) + 1; omega, by show (k : Int) + 1 < (2147483648 : Int); omega⟩ ?_
                              refine w_pi hm rfl (by decide) rfl (fun q => by cases q) ?_
                              refine w_aln rfl ?_
                              refine w_dupr ?_
                              refine w_gi hm rfl (by decide) rfl ((hn_n (Or.inr (by decide))).trans ((hn_n (Or.inr (by decide))).trans (fh))) ?_
                              refine w_ic ?_
                              refine w_add ⟨by show (-2147483648 : Int) ≤ ((q + k : Nat) : Int) + 1; omega, by show ((q + k : Nat) : Int) + 1 < (2147483648 : Int); omega⟩ ?_
                              refine w_pi hm rfl (by decide) rfl (fun q => by cases q) ?_
                              refine w_goto ?_
                              have en := rv_nl_n (q := q) (k := k) (rv_le_f l0)
                              have er : rv_rn B n (f + 1) (q + k) = rv_rn B n f (q + (k + 1)) := if_pos ⟨by omega, rv_an_d d1 d2⟩
                              exact ih (k + 1) 1 _ cb sb (by omega) (by omega) f1 ((hn_n (Or.inr (by decide))).trans ((hn_n (Or.inr (by decide))).trans ((hn_n (Or.inr (by decide))).trans (fs)))) ((hn_s).trans (by omega)) (((hn_n (Or.inr (by decide))).trans (hn_s)).trans (by omega)) ⟨by omega, a2, fun h h2 => by omega, fun h h2 => by omega, fun h h2 => by omega, fun h h2 => by omega⟩ (fun g => by exfalso; omega) (fun g g3 => by
                                obtain ⟨u1, u2, u3, u4, u5, u6⟩ := hu (by omega) (by omega)
                                have q1 := rv_wm ez55 ⟨by omega, by omega⟩
                                have q2 := rv_wa ez56 ⟨by omega, by omega⟩
                                have q3 := rv_ws ez57 ⟨by omega, by omega⟩
                                have q4 : ((mj_p0 (mj_p0 (mj_p0 M m 14 z57) m 13 ((k : Int) + 1)) m 4 (((q + k : Nat) : Int) + 1))).1 m 14 = z57 := (hn_n (Or.inr (by decide))).trans ((hn_n (Or.inr (by decide))).trans (hn_s))
                                rw [q4]
                                refine ⟨?_, by omega, fun h => by omega, fun h => by omega, fun h => by omega, by omega⟩
                                show _ = 10 * rv_nu B q k + B (q + k) - 48
                                omega) (fun j => Eq.trans (congrArg rv_u8 ((hn_n (Or.inl ne)).trans ((hn_n (Or.inl ne)).trans ((hn_n (Or.inl ne)))))) (fb j)) (fun k' al M' g0 g1 g2 g3 g4 g5 g6 g7 g8 g9 => hK k' al M' (er.trans g0) g1 g2 g3 g4 g5 g6 (rv_o.tr (rv_o.tr (rv_o.tr (rv_o.tr rv_o.rf (rv_o.st (a := m) (j := 14) (by decide))) (rv_o.st (a := m) (j := 13) (by decide))) (rv_o.st (a := m) (j := 4) (by decide))) g7) g8 g9)
                        · skip
                          refine w_aln rfl ?_
                          refine w_aln rfl ?_
                          refine w_gl hm rfl (by decide) rfl ((rfl : _ = M.2.1 m 17)) ?_
                          refine w_bp ?_
                          refine w_lshl ?_
                          refine w_aln rfl ?_
                          refine w_cv (st := [.inr (.inl ((M.2.1 m 17) <<< ((Int32.ofInt 8).toInt64 &&& 63))), .inr (.inr (some m))]) rfl hm rfl (Nat.le_of_ble_eq_true rfl) (fun kk h => h) (r_X12_peek (d := d) (p := q + k) (B := B) hm hb hn f1 (fs) (fh) fb (fun c => ?_) (fun c => by exfalso; omega))
                          · skip
                            refine w_i2l ?_
                            refine w_lor ?_
                            refine w_pl hm rfl (by decide) rfl ?_
                            refine w_aln rfl ?_
                            refine w_gi hm rfl (by decide) rfl (fk) ?_
                            refine w_ic ?_
                            refine w_cmge (fun c58 => ?_) (fun c58 => ?_)
                            · skip
                              refine w_aln rfl ?_
                              refine w_dupr ?_
                              refine w_gi hm rfl (by decide) rfl (fk) ?_
                              refine w_ic ?_
                              refine w_add ⟨by show (-2147483648 : Int) ≤ (k : Int) + 1; omega, by show (k : Int) + 1 < (2147483648 : Int); omega⟩ ?_
                              refine w_pi hm rfl (by decide) rfl (fun q => by cases q) ?_
                              refine w_aln rfl ?_
                              refine w_dupr ?_
                              refine w_gi hm rfl (by decide) rfl ((hn_n (Or.inr (by decide))).trans (fh)) ?_
                              refine w_ic ?_
                              refine w_add ⟨by show (-2147483648 : Int) ≤ ((q + k : Nat) : Int) + 1; omega, by show ((q + k : Nat) : Int) + 1 < (2147483648 : Int); omega⟩ ?_
                              refine w_pi hm rfl (by decide) rfl (fun q => by cases q) ?_
                              refine w_goto ?_
                              have en := rv_nl_n (q := q) (k := k) (rv_le_f l0)
                              have er : rv_rn B n (f + 1) (q + k) = rv_rn B n f (q + (k + 1)) := if_pos ⟨by omega, rv_an_d d1 d2⟩
                              exact ih (k + 1) 1 _ cb sb (by omega) (by omega) f1 ((hn_n (Or.inr (by decide))).trans ((hn_n (Or.inr (by decide))).trans (fs))) ((hn_s).trans (by omega)) (((hn_n (Or.inr (by decide))).trans (hn_s)).trans (by omega)) ⟨by omega, a2, fun h h2 => by omega, fun h h2 => by omega, fun h h2 => by omega, fun h h2 => by omega⟩ (fun g => wz_sl.trans (by rw [hw8 (by omega)]; rfl)) (fun g g3 => by exfalso; omega) (fun j => Eq.trans (congrArg rv_u8 ((hn_n (Or.inl ne)).trans ((hn_n (Or.inl ne))))) (fb j)) (fun k' al M' g0 g1 g2 g3 g4 g5 g6 g7 g8 g9 => hK k' al M' (er.trans g0) g1 g2 g3 g4 g5 g6 (rv_o.tr (rv_o.tr (rv_o.tr rv_o.rf (rv_o.st (a := m) (j := 13) (by decide))) (rv_o.st (a := m) (j := 4) (by decide))) g7) g8 (fun a j g => (g9 a j g).trans (wz_nl (Decidable.not_and_iff_or_not.mp g))))
                            · skip
                              refine w_aln rfl ?_
                              refine w_bp ?_
                              refine w_aln rfl ?_
                              refine w_gi hm rfl (by decide) rfl ((rfl : _ = M.1 m 14)) ?_
                              refine w_mulw ?_
                              intro z59 hz59 ez59
                              refine w_aln rfl ?_
                              refine w_cv (st := [.inl z59, .inr (.inr (some m))]) rfl hm rfl (Nat.le_of_ble_eq_true rfl) (fun kk h => h) (r_X12_peek (d := d) (p := q + k) (B := B) hm hb hn f1 (fs) (fh) fb (fun c => ?_) (fun c => by exfalso; omega))
                              · skip
                                refine w_addw ?_
                                intro z60 hz60 ez60
                                refine w_bp ?_
                                refine w_subw ?_
                                intro z61 hz61 ez61
                                refine w_pi hm rfl (by decide) rfl (fun q => by cases q) ?_
                                refine w_aln rfl ?_
                                refine w_dupr ?_
                                refine w_gi hm rfl (by decide) rfl ((hn_n (Or.inr (by decide))).trans (fk)) ?_
                                refine w_ic ?_
                                refine w_add ⟨by show (-2147483648 : Int) ≤ (k : Int) + 1; omega, by show (k : Int) + 1 < (2147483648 : Int); omega⟩ ?_
                                refine w_pi hm rfl (by decide) rfl (fun q => by cases q) ?_
                                refine w_aln rfl ?_
                                refine w_dupr ?_
                                refine w_gi hm rfl (by decide) rfl ((hn_n (Or.inr (by decide))).trans ((hn_n (Or.inr (by decide))).trans (fh))) ?_
                                refine w_ic ?_
                                refine w_add ⟨by show (-2147483648 : Int) ≤ ((q + k : Nat) : Int) + 1; omega, by show ((q + k : Nat) : Int) + 1 < (2147483648 : Int); omega⟩ ?_
                                refine w_pi hm rfl (by decide) rfl (fun q => by cases q) ?_
                                refine w_goto ?_
                                have en := rv_nl_n (q := q) (k := k) (rv_le_f l0)
                                have er : rv_rn B n (f + 1) (q + k) = rv_rn B n f (q + (k + 1)) := if_pos ⟨by omega, rv_an_d d1 d2⟩
                                exact ih (k + 1) 1 _ cb sb (by omega) (by omega) f1 ((hn_n (Or.inr (by decide))).trans ((hn_n (Or.inr (by decide))).trans ((hn_n (Or.inr (by decide))).trans (fs)))) ((hn_s).trans (by omega)) (((hn_n (Or.inr (by decide))).trans (hn_s)).trans (by omega)) ⟨by omega, a2, fun h h2 => by omega, fun h h2 => by omega, fun h h2 => by omega, fun h h2 => by omega⟩ (fun g => wz_sl.trans (by rw [hw8 (by omega)]; rfl)) (fun g g3 => by
                                  obtain ⟨u1, u2, u3, u4, u5, u6⟩ := hu (by omega) (by omega)
                                  have q1 := rv_wm ez59 ⟨by omega, by omega⟩
                                  have q2 := rv_wa ez60 ⟨by omega, by omega⟩
                                  have q3 := rv_ws ez61 ⟨by omega, by omega⟩
                                  have q4 : ((mj_p0 (mj_p0 (mj_p0 (mj_p1 M m 17 (((M.2.1 m 17) <<< ((Int32.ofInt 8).toInt64 &&& 63)) ||| ((Int32.ofInt (B (q + k))).toInt64))) m 14 z61) m 13 ((k : Int) + 1)) m 4 (((q + k : Nat) : Int) + 1))).1 m 14 = z61 := (hn_n (Or.inr (by decide))).trans ((hn_n (Or.inr (by decide))).trans (hn_s))
                                  rw [q4]
                                  refine ⟨?_, by omega, fun h => by omega, fun h => by omega, fun h => by omega, by omega⟩
                                  show _ = 10 * rv_nu B q k + B (q + k) - 48
                                  omega) (fun j => Eq.trans (congrArg rv_u8 ((hn_n (Or.inl ne)).trans ((hn_n (Or.inl ne)).trans ((hn_n (Or.inl ne)))))) (fb j)) (fun k' al M' g0 g1 g2 g3 g4 g5 g6 g7 g8 g9 => hK k' al M' (er.trans g0) g1 g2 g3 g4 g5 g6 (rv_o.tr (rv_o.tr (rv_o.tr (rv_o.tr rv_o.rf (rv_o.st (a := m) (j := 14) (by decide))) (rv_o.st (a := m) (j := 13) (by decide))) (rv_o.st (a := m) (j := 4) (by decide))) g7) g8 (fun a j g => (g9 a j g).trans (wz_nl (Decidable.not_and_iff_or_not.mp g))))
            · skip
              refine w_ifeq (fun c62 => ?_) (fun c62 => ?_)
              · skip
                exact hK k al M (if_neg (fun h => rv_an_n l0 d0 h.2)) hq fh fk ha hw8 hu rv_o.rf rfl (fun _ _ _ => rfl)
              · exfalso; omega
    · skip
      refine w_cs (st := []) rfl (Nat.le_of_ble_eq_true rfl) (fun kk h => h) (r_X12_isSmall (d := d) (fun a b => by exfalso; omega) (fun a => ?_))
      · skip
        refine w_ifne (fun c63 => ?_) (fun c63 => ?_)
        · exfalso; omega
        · skip
          refine w_aln rfl ?_
          refine w_cv (st := []) rfl hm rfl (Nat.le_of_ble_eq_true rfl) (fun kk h => h) (r_X12_peek (d := d) (p := q + k) (B := B) hm hb hn f1 (fs) (fh) fb (fun c => by exfalso; omega) (fun c => ?_))
          · skip
            refine w_cs (st := []) rfl (Nat.le_of_ble_eq_true rfl) (fun kk h => h) (r_X12_isDigit (d := d) (fun a b => by exfalso; omega) (fun a => ?_))
            · skip
              refine w_ifeq (fun c64 => ?_) (fun c64 => ?_)
              · skip
                exact hK k al M (if_neg (by omega)) hq fh fk ha hw8 hu rv_o.rf rfl (fun _ _ _ => rfl)
              · exfalso; omega
end
section
/-! ===== the reference's next (laid by a program) ===== -/
theorem rv_nl_1 {B : Nat → Int} {q : Nat} (h : rv_le (B q) = true) : ∀ k, 1 ≤ k → 1 ≤ rv_nl B q k
  | 0, g => absurd g (by decide)
  | 1, _ => by rw [rv_nl_s (k := 0) h]; omega
  | k + 2, _ => by
    have := rv_nl_1 h (k + 1) (by omega)
    show 1 ≤ rv_nl B q (k + 1) + _
    omega
theorem rv_nl_0 {B : Nat → Int} {q : Nat} (h : rv_le (B q) = false) : ∀ k, 1 ≤ k → rv_nl B q k < k
  | 0, g => absurd g (by decide)
  | 1, _ => by rw [rv_nl_n (k := 0) h]; exact Nat.zero_lt_one
  | k + 2, _ => by
    have := rv_nl_0 h (k + 1) (by omega)
    show rv_nl B q (k + 1) + (if _ then 1 else 0) < k + 2
    split <;> omega
/-- what next leaves of a run of k bytes from q on -/
def rv_nr (B : Nat → Int) (m q k : Nat) (M' : mj_M) : Prop := (rv_nl B q k = k ∧ k ≤ 8 ∧ M'.1 m 11 = 1 ∧ M'.2.1 m 17 = rv_w8 B q k) ∨ (¬ (rv_nl B q k = k ∧ k ≤ 8) ∧ rv_nl B q k = 0 ∧ k ≤ 3 ∧ M'.1 m 11 = 2 ∧ rv_nk B q k (M'.1 m 14)) ∨ (¬ (rv_nl B q k = k ∧ k ≤ 8) ∧ ¬ (rv_nl B q k = 0 ∧ k ≤ 3) ∧ M'.1 m 11 = 4)
/-- what next leaves, the blanks ending at q -/
def rv_nx (B : Nat → Int) (n lim m q : Nat) (M M' : mj_M) : Prop := rv_o m [4, 11, 12, 13, 14] M M' ∧ (∀ a j, ¬ (a = m ∧ j = 17) → M'.2.1 a j = M.2.1 a j) ∧ M'.2.2 = M.2.2 ∧
  ((lim < n ∧ lim ≤ q ∧ M'.1 m 11 = 4 ∧ M'.1 m 12 = (lim : Int)) ∨ (¬ (lim < n ∧ lim ≤ q) ∧ M'.1 m 12 = (q : Int) ∧ ((n ≤ q ∧ M'.1 m 11 = 0) ∨ (q < n ∧ ¬ rv_an (B q) = true ∧ M'.1 m 14 = B q ∧ M'.1 m 4 = ((q + 1 : Nat) : Int) ∧ ((M'.1 m 11 = 3 ∧ (B q = 59 ∨ B q = 40 ∨ B q = 41 ∨ (60 ≤ B q ∧ B q ≤ 62))) ∨ (M'.1 m 11 = 4 ∧ ¬ (B q = 59 ∨ B q = 40 ∨ B q = 41 ∨ (60 ≤ B q ∧ B q ≤ 62))))) ∨ (q < n ∧ rv_an (B q) = true ∧ ∃ k, 1 ≤ k ∧ rv_rn B n (n - q) q = q + k ∧ q + k ≤ n ∧ M'.1 m 4 = ((q + k : Nat) : Int) ∧ rv_nr B m q k M'))))
theorem r_X12_next {d m br n lim p : Nat} {B : Nat → Int} {G : mj_G} {M : mj_M} {Q : mj_P} (hm : G m = (1012, 0)) (hb : G br = (50101, 940)) (hn : n ≤ 940) (f1 : M.2.2 m 1 = some br) (fs : M.1 m 3 = (n : Int)) (fm : M.1 m 5 = (lim : Int)) (fh : M.1 m 4 = (p : Int)) (fb : ∀ k, rv_u8 (M.1 br k) = B k) (hQ : ∀ M', rv_nx B n lim m (rv_sk B n (n - p) p) M M' → Q none G M') : mj_R mj_tab (d + 2) 216 [.inr (.inr (some m))] G M Q := by
  have ne : br ≠ m := hn_ne hb hm (by decide)
  refine ⟨Nat.le_of_ble_eq_true rfl, ?_⟩
  show wz (d + 1) mt_X12_next.2.2.2.2.1 Q mt_X12_next.2.2.2.2.1 [some (.inr (.inr (some m))), none, none, none] [] G M _ _
  refine r_nxt1 (B := B) hm hb hn (n - p) p M _ _ (by omega) f1 fs fh fb (fun M1 g1 g2 g3 => ?_)
  generalize hq : rv_sk B n (n - p) p = q at *
  have g22 : M1.2.2 = M.2.2 := by rw [g3]
  have g21 : ∀ a j, M1.2.1 a j = M.2.1 a j := fun a j => by rw [g3]
  have f11 : M1.2.2 m 1 = some br := by rw [g22]; exact f1
  have fs1 : M1.1 m 3 = (n : Int) := (g2 m 3 (by rintro ⟨-, h⟩; revert h; decide)).trans fs
  have fm1 : M1.1 m 5 = (lim : Int) := (g2 m 5 (by rintro ⟨-, h⟩; revert h; decide)).trans fm
  have fb1 : ∀ k, rv_u8 (M1.1 br k) = B k := fun k => by rw [g2 br k (fun h => ne h.1)]; exact fb k
  have ub := rv_u8_in (M1.1 br q)
  rw [fb1 q] at ub
  have o1 : rv_o m [4, 11, 12, 13, 14] M M1 := g2.up (by decide)
  refine w_aln rfl ?_
  refine w_aln rfl ?_
  refine w_gi hm rfl (by decide) rfl (g1) ?_
  refine w_pi hm rfl (by decide) rfl (fun q => by cases q) ?_
  refine w_aln rfl ?_
  refine w_ic ?_
  refine w_pi hm rfl (by decide) rfl (fun q => by cases q) ?_
  refine w_aln rfl ?_
  refine w_gi hm rfl (by decide) rfl ((hn_n (Or.inr (by decide))).trans ((hn_n (Or.inr (by decide))).trans (fs1))) ?_
  refine w_aln rfl ?_
  refine w_gi hm rfl (by decide) rfl ((hn_n (Or.inr (by decide))).trans ((hn_n (Or.inr (by decide))).trans (fm1))) ?_
  refine w_cmle (fun c1 => ?_) (fun c1 => ?_)
  · skip
    refine w_aln rfl ?_
    refine w_cv (st := []) rfl hm rfl (Nat.le_of_ble_eq_true rfl) (fun kk h => h) (r_X12_peek (d := d) (p := q) (B := B) hm hb hn f11 ((hn_n (Or.inr (by decide))).trans ((hn_n (Or.inr (by decide))).trans (fs1))) ((hn_n (Or.inr (by decide))).trans ((hn_n (Or.inr (by decide))).trans (g1))) (fun j => Eq.trans (congrArg rv_u8 ((hn_n (Or.inl ne)).trans ((hn_n (Or.inl ne))))) (fb1 j)) (fun ci => ?_) (fun ci => ?_))
    · skip
      refine w_isn ?_
      refine w_iln rfl ?_
      refine w_ifge (fun c2 => ?_) (fun c2 => ?_)
      · skip
        refine w_iln rfl ?_
        refine w_cs (st := []) rfl (Nat.le_of_ble_eq_true rfl) (fun kk h => h) (r_X12_isSmall (d := d) (fun l1 l2 => ?_) (fun l0 => ?_))
        · skip
          refine w_ifne (fun c3 => ?_) (fun c3 => ?_)
          · skip
            refine w_iln rfl ?_
            refine w_cs (st := []) rfl (Nat.le_of_ble_eq_true rfl) (fun kk h => h) (r_X12_isSmall (d := d) (fun a b => ?_) (fun a => by exfalso; omega))
            · skip
              refine w_isn ?_
              refine w_ic ?_
              refine w_isn ?_
              refine w_aln rfl ?_
              refine w_lc ?_
              refine w_pl hm rfl (by decide) rfl ?_
              refine w_aln rfl ?_
              refine w_ic ?_
              refine w_pi hm rfl (by decide) rfl (fun q => by cases q) ?_
              have cq : q < n := by omega
              refine r_nxt2 (q := q) (B := B) hm hb hn (n - q) 0 1 _ _ _ (by omega) (by omega) f11 ((hn_n (Or.inr (by decide))).trans ((hn_n (Or.inr (by decide))).trans ((hn_n (Or.inr (by decide))).trans (fs1)))) ((hn_n (Or.inr (by decide))).trans ((hn_n (Or.inr (by decide))).trans ((hn_n (Or.inr (by decide))).trans (g1)))) ((hn_n (Or.inr (by decide))).trans (hn_s)) ⟨Or.inr rfl, by decide, fun _ _ => rfl, fun _ h => absurd h (by decide), fun _ _ => rfl, fun _ h => absurd h (by decide)⟩ (fun _ => wz_sl) (fun _ _ => ⟨hn_s, Int.le_of_eq (hn_s).symm, fun _ => Int.le_of_eq (hn_s), fun _ => by rw [show _ = (0 : Int) from hn_s]; decide, fun _ => by rw [show _ = (0 : Int) from hn_s]; decide, by rw [show _ = (0 : Int) from hn_s]; decide⟩) (fun j => Eq.trans (congrArg rv_u8 ((hn_n (Or.inl ne)).trans ((hn_n (Or.inl ne)).trans ((hn_n (Or.inl ne)))))) (fb1 j)) (fun k al M2 r0 rn r4 r13 ra rw rnk ro r22 r21 => ?_)
              have k1 : 1 ≤ k := by
                have h1 : rv_rn B n (n - q) q = rv_rn B n (n - q - 1) (q + 1) := by
                  rw [show n - q = (n - q - 1) + 1 by omega]; exact if_pos ⟨cq, rv_an_l l1 l2⟩
                have h2 := rv_rn_ge B n (n - q - 1) (q + 1)
                have h3 : rv_rn B n (n - q) q = q + k := r0
                omega
              have hle := rv_nl_1 (rv_le_t l1 l2) k k1
              have hl := rv_nl_le B q k
              obtain ⟨a1, a2, a3, a4, a5, a6⟩ := ra
              have o2 := rv_o.tr (rv_o.tr (rv_o.tr (rv_o.tr o1 (rv_o.st (a := m) (j := 12) (by decide))) (rv_o.st (a := m) (j := 13) (by decide))) (rv_o.st (a := m) (j := 14) (by decide))) (ro.up (by decide))
              have l2x : ∀ a j, ¬ (a = m ∧ j = 17) → M2.2.1 a j = M.2.1 a j := fun a j g => (r21 a j g).trans ((wz_nl (Decidable.not_and_iff_or_not.mp g)).trans (g21 a j))
              have r12 : M2.1 m 12 = (q : Int) := (ro m 12 (by rintro ⟨-, h⟩; revert h; decide)).trans ((hn_n (Or.inr (by decide))).trans ((hn_n (Or.inr (by decide))).trans (hn_s)))
              refine w_aln rfl ?_
              refine w_iln rfl ?_
              refine w_ifeq (fun c101 => ?_) (fun c101 => ?_)
              · skip
                refine w_ic ?_
                refine w_goto ?_
                refine w_pi hm rfl (by decide) rfl (fun q => by cases q) ?_
                exact w_ret (hQ _ ⟨(rv_o.tr o2 (rv_o.st (a := m) (j := 11) (by decide))), l2x, r22.trans g22, Or.inr ⟨by omega, (hn_n (Or.inr (by decide))).trans (r12), Or.inr (Or.inr ⟨cq, rv_an_l l1 l2, k, k1, r0, rn, (hn_n (Or.inr (by decide))).trans (r4), Or.inr (Or.inr ⟨by omega, by omega, hn_s⟩)⟩)⟩⟩)
              · skip
                refine w_aln rfl ?_
                refine w_gi hm rfl (by decide) rfl (r13) ?_
                refine w_iln rfl ?_
                refine w_ifeq (fun c102 => ?_) (fun c102 => ?_)
                · exfalso; omega
                · skip
                  refine w_bp ?_
                  refine w_goto ?_
                  refine w_cmle (fun c103 => ?_) (fun c103 => ?_)
                  · skip
                    refine w_iln rfl ?_
                    refine w_ifeq (fun c104 => ?_) (fun c104 => ?_)
                    · exfalso; omega
                    · skip
                      refine w_ic ?_
                      refine w_goto ?_
                      refine w_pi hm rfl (by decide) rfl (fun q => by cases q) ?_
                      exact w_ret (hQ _ ⟨(rv_o.tr o2 (rv_o.st (a := m) (j := 11) (by decide))), l2x, r22.trans g22, Or.inr ⟨by omega, (hn_n (Or.inr (by decide))).trans (r12), Or.inr (Or.inr ⟨cq, rv_an_l l1 l2, k, k1, r0, rn, (hn_n (Or.inr (by decide))).trans (r4), Or.inl ⟨by omega, by omega, hn_s, rw (by omega)⟩⟩)⟩⟩)
                  · skip
                    refine w_ic ?_
                    refine w_goto ?_
                    refine w_pi hm rfl (by decide) rfl (fun q => by cases q) ?_
                    exact w_ret (hQ _ ⟨(rv_o.tr o2 (rv_o.st (a := m) (j := 11) (by decide))), l2x, r22.trans g22, Or.inr ⟨by omega, (hn_n (Or.inr (by decide))).trans (r12), Or.inr (Or.inr ⟨cq, rv_an_l l1 l2, k, k1, r0, rn, (hn_n (Or.inr (by decide))).trans (r4), Or.inr (Or.inr ⟨by omega, by omega, hn_s⟩)⟩)⟩⟩)
          · exfalso; omega
        · skip
          refine w_ifne (fun c4 => ?_) (fun c4 => ?_)
          · exfalso; omega
          · skip
            refine w_iln rfl ?_
            refine w_cs (st := []) rfl (Nat.le_of_ble_eq_true rfl) (fun kk h => h) (r_X12_isDigit (d := d) (fun d1 d2 => ?_) (fun d0 => ?_))
            · skip
              refine w_ifne (fun c5 => ?_) (fun c5 => ?_)
              · skip
                refine w_iln rfl ?_
                refine w_cs (st := []) rfl (Nat.le_of_ble_eq_true rfl) (fun kk h => h) (r_X12_isSmall (d := d) (fun a b => by exfalso; omega) (fun a => ?_))
                · skip
                  refine w_isn ?_
                  refine w_ic ?_
                  refine w_isn ?_
                  refine w_aln rfl ?_
                  refine w_lc ?_
                  refine w_pl hm rfl (by decide) rfl ?_
                  refine w_aln rfl ?_
                  refine w_ic ?_
                  refine w_pi hm rfl (by decide) rfl (fun q => by cases q) ?_
                  have cq : q < n := by omega
                  refine r_nxt2 (q := q) (B := B) hm hb hn (n - q) 0 1 _ _ _ (by omega) (by omega) f11 ((hn_n (Or.inr (by decide))).trans ((hn_n (Or.inr (by decide))).trans ((hn_n (Or.inr (by decide))).trans (fs1)))) ((hn_n (Or.inr (by decide))).trans ((hn_n (Or.inr (by decide))).trans ((hn_n (Or.inr (by decide))).trans (g1)))) ((hn_n (Or.inr (by decide))).trans (hn_s)) ⟨Or.inr rfl, by decide, fun _ _ => rfl, fun _ h => absurd h (by decide), fun _ _ => rfl, fun _ h => absurd h (by decide)⟩ (fun _ => wz_sl) (fun _ _ => ⟨hn_s, Int.le_of_eq (hn_s).symm, fun _ => Int.le_of_eq (hn_s), fun _ => by rw [show _ = (0 : Int) from hn_s]; decide, fun _ => by rw [show _ = (0 : Int) from hn_s]; decide, by rw [show _ = (0 : Int) from hn_s]; decide⟩) (fun j => Eq.trans (congrArg rv_u8 ((hn_n (Or.inl ne)).trans ((hn_n (Or.inl ne)).trans ((hn_n (Or.inl ne)))))) (fb1 j)) (fun k al M2 r0 rn r4 r13 ra rw rnk ro r22 r21 => ?_)
                  have k1 : 1 ≤ k := by
                    have h1 : rv_rn B n (n - q) q = rv_rn B n (n - q - 1) (q + 1) := by
                      rw [show n - q = (n - q - 1) + 1 by omega]; exact if_pos ⟨cq, rv_an_d d1 d2⟩
                    have h2 := rv_rn_ge B n (n - q - 1) (q + 1)
                    have h3 : rv_rn B n (n - q) q = q + k := r0
                    omega
                  have hle := rv_nl_0 (rv_le_f l0) k k1
                  have hl := rv_nl_le B q k
                  obtain ⟨a1, a2, a3, a4, a5, a6⟩ := ra
                  have o2 := rv_o.tr (rv_o.tr (rv_o.tr (rv_o.tr o1 (rv_o.st (a := m) (j := 12) (by decide))) (rv_o.st (a := m) (j := 13) (by decide))) (rv_o.st (a := m) (j := 14) (by decide))) (ro.up (by decide))
                  have l2x : ∀ a j, ¬ (a = m ∧ j = 17) → M2.2.1 a j = M.2.1 a j := fun a j g => (r21 a j g).trans ((wz_nl (Decidable.not_and_iff_or_not.mp g)).trans (g21 a j))
                  have r12 : M2.1 m 12 = (q : Int) := (ro m 12 (by rintro ⟨-, h⟩; revert h; decide)).trans ((hn_n (Or.inr (by decide))).trans ((hn_n (Or.inr (by decide))).trans (hn_s)))
                  refine w_aln rfl ?_
                  refine w_iln rfl ?_
                  refine w_ifeq (fun c101 => ?_) (fun c101 => ?_)
                  · skip
                    refine w_ic ?_
                    refine w_goto ?_
                    refine w_pi hm rfl (by decide) rfl (fun q => by cases q) ?_
                    exact w_ret (hQ _ ⟨(rv_o.tr o2 (rv_o.st (a := m) (j := 11) (by decide))), l2x, r22.trans g22, Or.inr ⟨by omega, (hn_n (Or.inr (by decide))).trans (r12), Or.inr (Or.inr ⟨cq, rv_an_d d1 d2, k, k1, r0, rn, (hn_n (Or.inr (by decide))).trans (r4), Or.inr (Or.inr ⟨by omega, by omega, hn_s⟩)⟩)⟩⟩)
                  · skip
                    refine w_aln rfl ?_
                    refine w_gi hm rfl (by decide) rfl (r13) ?_
                    refine w_iln rfl ?_
                    refine w_ifeq (fun c102 => ?_) (fun c102 => ?_)
                    · skip
                      refine w_ic ?_
                      refine w_cmle (fun c103 => ?_) (fun c103 => ?_)
                      · skip
                        refine w_iln rfl ?_
                        refine w_ifeq (fun c104 => ?_) (fun c104 => ?_)
                        · skip
                          refine w_ic ?_
                          refine w_pi hm rfl (by decide) rfl (fun q => by cases q) ?_
                          exact w_ret (hQ _ ⟨(rv_o.tr o2 (rv_o.st (a := m) (j := 11) (by decide))), l2x, r22.trans g22, Or.inr ⟨by omega, (hn_n (Or.inr (by decide))).trans (r12), Or.inr (Or.inr ⟨cq, rv_an_d d1 d2, k, k1, r0, rn, (hn_n (Or.inr (by decide))).trans (r4), Or.inr (Or.inl ⟨by omega, by omega, by omega, hn_s, by rw [show (mj_p0 M2 m 11 2).1 m 14 = M2.1 m 14 from hn_n (Or.inr (by decide))]; exact rnk (by omega) (by omega)⟩)⟩)⟩⟩)
                        · exfalso; omega
                      · skip
                        refine w_ic ?_
                        refine w_goto ?_
                        refine w_pi hm rfl (by decide) rfl (fun q => by cases q) ?_
                        exact w_ret (hQ _ ⟨(rv_o.tr o2 (rv_o.st (a := m) (j := 11) (by decide))), l2x, r22.trans g22, Or.inr ⟨by omega, (hn_n (Or.inr (by decide))).trans (r12), Or.inr (Or.inr ⟨cq, rv_an_d d1 d2, k, k1, r0, rn, (hn_n (Or.inr (by decide))).trans (r4), Or.inr (Or.inr ⟨by omega, by omega, hn_s⟩)⟩)⟩⟩)
                    · exfalso; omega
              · exfalso; omega
            · skip
              refine w_ifne (fun c6 => ?_) (fun c6 => ?_)
              · exfalso; omega
              · skip
                refine w_aln rfl ?_
                refine w_iln rfl ?_
                refine w_bp ?_
                refine w_cmeq (fun c7 => ?_) (fun c7 => ?_)
                · skip
                  refine w_ic ?_
                  refine w_goto ?_
                  refine w_pi hm rfl (by decide) rfl (fun q => by cases q) ?_
                  refine w_aln rfl ?_
                  refine w_iln rfl ?_
                  refine w_pi hm rfl (by decide) rfl (fun q => by cases q) ?_
                  refine w_aln rfl ?_
                  refine w_dupr ?_
                  refine w_gi hm rfl (by decide) rfl ((hn_n (Or.inr (by decide))).trans ((hn_n (Or.inr (by decide))).trans ((hn_n (Or.inr (by decide))).trans ((hn_n (Or.inr (by decide))).trans (g1))))) ?_
                  refine w_ic ?_
                  refine w_add ⟨by show (-2147483648 : Int) ≤ (q : Int) + 1; omega, by show (q : Int) + 1 < (2147483648 : Int); omega⟩ ?_
                  refine w_pi hm rfl (by decide) rfl (fun q => by cases q) ?_
                  exact w_ret (hQ _ ⟨(rv_o.tr (rv_o.tr (rv_o.tr (rv_o.tr (rv_o.tr o1 (rv_o.st (a := m) (j := 12) (by decide))) (rv_o.st (a := m) (j := 13) (by decide))) (rv_o.st (a := m) (j := 11) (by decide))) (rv_o.st (a := m) (j := 14) (by decide))) (rv_o.st (a := m) (j := 4) (by decide))), fun a j _ => g21 a j, g22, Or.inr ⟨by omega, (hn_n (Or.inr (by decide))).trans ((hn_n (Or.inr (by decide))).trans ((hn_n (Or.inr (by decide))).trans ((hn_n (Or.inr (by decide))).trans (hn_s)))), Or.inr (Or.inl ⟨by omega, rv_an_n l0 d0, (hn_n (Or.inr (by decide))).trans (hn_s), (hn_s).trans (by omega), Or.inl ⟨(hn_n (Or.inr (by decide))).trans ((hn_n (Or.inr (by decide))).trans (hn_s)), by omega⟩⟩)⟩⟩)
                · skip
                  refine w_iln rfl ?_
                  refine w_bp ?_
                  refine w_cmeq (fun c8 => ?_) (fun c8 => ?_)
                  · skip
                    refine w_ic ?_
                    refine w_goto ?_
                    refine w_pi hm rfl (by decide) rfl (fun q => by cases q) ?_
                    refine w_aln rfl ?_
                    refine w_iln rfl ?_
                    refine w_pi hm rfl (by decide) rfl (fun q => by cases q) ?_
                    refine w_aln rfl ?_
                    refine w_dupr ?_
                    refine w_gi hm rfl (by decide) rfl ((hn_n (Or.inr (by decide))).trans ((hn_n (Or.inr (by decide))).trans ((hn_n (Or.inr (by decide))).trans ((hn_n (Or.inr (by decide))).trans (g1))))) ?_
                    refine w_ic ?_
                    refine w_add ⟨by show (-2147483648 : Int) ≤ (q : Int) + 1; omega, by show (q : Int) + 1 < (2147483648 : Int); omega⟩ ?_
                    refine w_pi hm rfl (by decide) rfl (fun q => by cases q) ?_
                    exact w_ret (hQ _ ⟨(rv_o.tr (rv_o.tr (rv_o.tr (rv_o.tr (rv_o.tr o1 (rv_o.st (a := m) (j := 12) (by decide))) (rv_o.st (a := m) (j := 13) (by decide))) (rv_o.st (a := m) (j := 11) (by decide))) (rv_o.st (a := m) (j := 14) (by decide))) (rv_o.st (a := m) (j := 4) (by decide))), fun a j _ => g21 a j, g22, Or.inr ⟨by omega, (hn_n (Or.inr (by decide))).trans ((hn_n (Or.inr (by decide))).trans ((hn_n (Or.inr (by decide))).trans ((hn_n (Or.inr (by decide))).trans (hn_s)))), Or.inr (Or.inl ⟨by omega, rv_an_n l0 d0, (hn_n (Or.inr (by decide))).trans (hn_s), (hn_s).trans (by omega), Or.inl ⟨(hn_n (Or.inr (by decide))).trans ((hn_n (Or.inr (by decide))).trans (hn_s)), by omega⟩⟩)⟩⟩)
                  · skip
                    refine w_iln rfl ?_
                    refine w_bp ?_
                    refine w_cmeq (fun c9 => ?_) (fun c9 => ?_)
                    · skip
                      refine w_ic ?_
                      refine w_goto ?_
                      refine w_pi hm rfl (by decide) rfl (fun q => by cases q) ?_
                      refine w_aln rfl ?_
                      refine w_iln rfl ?_
                      refine w_pi hm rfl (by decide) rfl (fun q => by cases q) ?_
                      refine w_aln rfl ?_
                      refine w_dupr ?_
                      refine w_gi hm rfl (by decide) rfl ((hn_n (Or.inr (by decide))).trans ((hn_n (Or.inr (by decide))).trans ((hn_n (Or.inr (by decide))).trans ((hn_n (Or.inr (by decide))).trans (g1))))) ?_
                      refine w_ic ?_
                      refine w_add ⟨by show (-2147483648 : Int) ≤ (q : Int) + 1; omega, by show (q : Int) + 1 < (2147483648 : Int); omega⟩ ?_
                      refine w_pi hm rfl (by decide) rfl (fun q => by cases q) ?_
                      exact w_ret (hQ _ ⟨(rv_o.tr (rv_o.tr (rv_o.tr (rv_o.tr (rv_o.tr o1 (rv_o.st (a := m) (j := 12) (by decide))) (rv_o.st (a := m) (j := 13) (by decide))) (rv_o.st (a := m) (j := 11) (by decide))) (rv_o.st (a := m) (j := 14) (by decide))) (rv_o.st (a := m) (j := 4) (by decide))), fun a j _ => g21 a j, g22, Or.inr ⟨by omega, (hn_n (Or.inr (by decide))).trans ((hn_n (Or.inr (by decide))).trans ((hn_n (Or.inr (by decide))).trans ((hn_n (Or.inr (by decide))).trans (hn_s)))), Or.inr (Or.inl ⟨by omega, rv_an_n l0 d0, (hn_n (Or.inr (by decide))).trans (hn_s), (hn_s).trans (by omega), Or.inl ⟨(hn_n (Or.inr (by decide))).trans ((hn_n (Or.inr (by decide))).trans (hn_s)), by omega⟩⟩)⟩⟩)
                    · skip
                      refine w_iln rfl ?_
                      refine w_bp ?_
                      refine w_cmlt (fun c10 => ?_) (fun c10 => ?_)
                      · skip
                        refine w_ic ?_
                        refine w_pi hm rfl (by decide) rfl (fun q => by cases q) ?_
                        refine w_aln rfl ?_
                        refine w_iln rfl ?_
                        refine w_pi hm rfl (by decide) rfl (fun q => by cases q) ?_
                        refine w_aln rfl ?_
                        refine w_dupr ?_
                        refine w_gi hm rfl (by decide) rfl ((hn_n (Or.inr (by decide))).trans ((hn_n (Or.inr (by decide))).trans ((hn_n (Or.inr (by decide))).trans ((hn_n (Or.inr (by decide))).trans (g1))))) ?_
                        refine w_ic ?_
                        refine w_add ⟨by show (-2147483648 : Int) ≤ (q : Int) + 1; omega, by show (q : Int) + 1 < (2147483648 : Int); omega⟩ ?_
                        refine w_pi hm rfl (by decide) rfl (fun q => by cases q) ?_
                        exact w_ret (hQ _ ⟨(rv_o.tr (rv_o.tr (rv_o.tr (rv_o.tr (rv_o.tr o1 (rv_o.st (a := m) (j := 12) (by decide))) (rv_o.st (a := m) (j := 13) (by decide))) (rv_o.st (a := m) (j := 11) (by decide))) (rv_o.st (a := m) (j := 14) (by decide))) (rv_o.st (a := m) (j := 4) (by decide))), fun a j _ => g21 a j, g22, Or.inr ⟨by omega, (hn_n (Or.inr (by decide))).trans ((hn_n (Or.inr (by decide))).trans ((hn_n (Or.inr (by decide))).trans ((hn_n (Or.inr (by decide))).trans (hn_s)))), Or.inr (Or.inl ⟨by omega, rv_an_n l0 d0, (hn_n (Or.inr (by decide))).trans (hn_s), (hn_s).trans (by omega), Or.inr ⟨(hn_n (Or.inr (by decide))).trans ((hn_n (Or.inr (by decide))).trans (hn_s)), by omega⟩⟩)⟩⟩)
                      · skip
                        refine w_iln rfl ?_
                        refine w_bp ?_
                        refine w_cmgt (fun c11 => ?_) (fun c11 => ?_)
                        · skip
                          refine w_ic ?_
                          refine w_pi hm rfl (by decide) rfl (fun q => by cases q) ?_
                          refine w_aln rfl ?_
                          refine w_iln rfl ?_
                          refine w_pi hm rfl (by decide) rfl (fun q => by cases q) ?_
                          refine w_aln rfl ?_
                          refine w_dupr ?_
                          refine w_gi hm rfl (by decide) rfl ((hn_n (Or.inr (by decide))).trans ((hn_n (Or.inr (by decide))).trans ((hn_n (Or.inr (by decide))).trans ((hn_n (Or.inr (by decide))).trans (g1))))) ?_
                          refine w_ic ?_
                          refine w_add ⟨by show (-2147483648 : Int) ≤ (q : Int) + 1; omega, by show (q : Int) + 1 < (2147483648 : Int); omega⟩ ?_
                          refine w_pi hm rfl (by decide) rfl (fun q => by cases q) ?_
                          exact w_ret (hQ _ ⟨(rv_o.tr (rv_o.tr (rv_o.tr (rv_o.tr (rv_o.tr o1 (rv_o.st (a := m) (j := 12) (by decide))) (rv_o.st (a := m) (j := 13) (by decide))) (rv_o.st (a := m) (j := 11) (by decide))) (rv_o.st (a := m) (j := 14) (by decide))) (rv_o.st (a := m) (j := 4) (by decide))), fun a j _ => g21 a j, g22, Or.inr ⟨by omega, (hn_n (Or.inr (by decide))).trans ((hn_n (Or.inr (by decide))).trans ((hn_n (Or.inr (by decide))).trans ((hn_n (Or.inr (by decide))).trans (hn_s)))), Or.inr (Or.inl ⟨by omega, rv_an_n l0 d0, (hn_n (Or.inr (by decide))).trans (hn_s), (hn_s).trans (by omega), Or.inr ⟨(hn_n (Or.inr (by decide))).trans ((hn_n (Or.inr (by decide))).trans (hn_s)), by omega⟩⟩)⟩⟩)
                        · skip
                          refine w_ic ?_
                          refine w_goto ?_
                          refine w_pi hm rfl (by decide) rfl (fun q => by cases q) ?_
                          refine w_aln rfl ?_
                          refine w_iln rfl ?_
                          refine w_pi hm rfl (by decide) rfl (fun q => by cases q) ?_
                          refine w_aln rfl ?_
                          refine w_dupr ?_
                          refine w_gi hm rfl (by decide) rfl ((hn_n (Or.inr (by decide))).trans ((hn_n (Or.inr (by decide))).trans ((hn_n (Or.inr (by decide))).trans ((hn_n (Or.inr (by decide))).trans (g1))))) ?_
                          refine w_ic ?_
                          refine w_add ⟨by show (-2147483648 : Int) ≤ (q : Int) + 1; omega, by show (q : Int) + 1 < (2147483648 : Int); omega⟩ ?_
                          refine w_pi hm rfl (by decide) rfl (fun q => by cases q) ?_
                          exact w_ret (hQ _ ⟨(rv_o.tr (rv_o.tr (rv_o.tr (rv_o.tr (rv_o.tr o1 (rv_o.st (a := m) (j := 12) (by decide))) (rv_o.st (a := m) (j := 13) (by decide))) (rv_o.st (a := m) (j := 11) (by decide))) (rv_o.st (a := m) (j := 14) (by decide))) (rv_o.st (a := m) (j := 4) (by decide))), fun a j _ => g21 a j, g22, Or.inr ⟨by omega, (hn_n (Or.inr (by decide))).trans ((hn_n (Or.inr (by decide))).trans ((hn_n (Or.inr (by decide))).trans ((hn_n (Or.inr (by decide))).trans (hn_s)))), Or.inr (Or.inl ⟨by omega, rv_an_n l0 d0, (hn_n (Or.inr (by decide))).trans (hn_s), (hn_s).trans (by omega), Or.inl ⟨(hn_n (Or.inr (by decide))).trans ((hn_n (Or.inr (by decide))).trans (hn_s)), by omega⟩⟩)⟩⟩)
      · skip
        refine w_aln rfl ?_
        refine w_ic ?_
        refine w_pi hm rfl (by decide) rfl (fun q => by cases q) ?_
        exact w_ret (hQ _ ⟨(rv_o.tr (rv_o.tr (rv_o.tr o1 (rv_o.st (a := m) (j := 12) (by decide))) (rv_o.st (a := m) (j := 13) (by decide))) (rv_o.st (a := m) (j := 11) (by decide))), fun a j _ => g21 a j, g22, Or.inr ⟨by omega, (hn_n (Or.inr (by decide))).trans ((hn_n (Or.inr (by decide))).trans (hn_s)), Or.inl ⟨by omega, hn_s⟩⟩⟩)
    · skip
      refine w_isn ?_
      refine w_iln rfl ?_
      refine w_ifge (fun c12 => ?_) (fun c12 => ?_)
      · exfalso; omega
      · skip
        refine w_aln rfl ?_
        refine w_ic ?_
        refine w_pi hm rfl (by decide) rfl (fun q => by cases q) ?_
        exact w_ret (hQ _ ⟨(rv_o.tr (rv_o.tr (rv_o.tr o1 (rv_o.st (a := m) (j := 12) (by decide))) (rv_o.st (a := m) (j := 13) (by decide))) (rv_o.st (a := m) (j := 11) (by decide))), fun a j _ => g21 a j, g22, Or.inr ⟨by omega, (hn_n (Or.inr (by decide))).trans ((hn_n (Or.inr (by decide))).trans (hn_s)), Or.inl ⟨by omega, hn_s⟩⟩⟩)
  · skip
    refine w_aln rfl ?_
    refine w_gi hm rfl (by decide) rfl ((hn_n (Or.inr (by decide))).trans ((hn_n (Or.inr (by decide))).trans (g1))) ?_
    refine w_aln rfl ?_
    refine w_gi hm rfl (by decide) rfl ((hn_n (Or.inr (by decide))).trans ((hn_n (Or.inr (by decide))).trans (fm1))) ?_
    refine w_cmlt (fun c13 => ?_) (fun c13 => ?_)
    · skip
      refine w_aln rfl ?_
      refine w_cv (st := []) rfl hm rfl (Nat.le_of_ble_eq_true rfl) (fun kk h => h) (r_X12_peek (d := d) (p := q) (B := B) hm hb hn f11 ((hn_n (Or.inr (by decide))).trans ((hn_n (Or.inr (by decide))).trans (fs1))) ((hn_n (Or.inr (by decide))).trans ((hn_n (Or.inr (by decide))).trans (g1))) (fun j => Eq.trans (congrArg rv_u8 ((hn_n (Or.inl ne)).trans ((hn_n (Or.inl ne))))) (fb1 j)) (fun ci => ?_) (fun ci => ?_))
      · skip
        refine w_isn ?_
        refine w_iln rfl ?_
        refine w_ifge (fun c14 => ?_) (fun c14 => ?_)
        · skip
          refine w_iln rfl ?_
          refine w_cs (st := []) rfl (Nat.le_of_ble_eq_true rfl) (fun kk h => h) (r_X12_isSmall (d := d) (fun l1 l2 => ?_) (fun l0 => ?_))
          · skip
            refine w_ifne (fun c15 => ?_) (fun c15 => ?_)
            · skip
              refine w_iln rfl ?_
              refine w_cs (st := []) rfl (Nat.le_of_ble_eq_true rfl) (fun kk h => h) (r_X12_isSmall (d := d) (fun a b => ?_) (fun a => by exfalso; omega))
              · skip
                refine w_isn ?_
                refine w_ic ?_
                refine w_isn ?_
                refine w_aln rfl ?_
                refine w_lc ?_
                refine w_pl hm rfl (by decide) rfl ?_
                refine w_aln rfl ?_
                refine w_ic ?_
                refine w_pi hm rfl (by decide) rfl (fun q => by cases q) ?_
                have cq : q < n := by omega
                refine r_nxt2 (q := q) (B := B) hm hb hn (n - q) 0 1 _ _ _ (by omega) (by omega) f11 ((hn_n (Or.inr (by decide))).trans ((hn_n (Or.inr (by decide))).trans ((hn_n (Or.inr (by decide))).trans (fs1)))) ((hn_n (Or.inr (by decide))).trans ((hn_n (Or.inr (by decide))).trans ((hn_n (Or.inr (by decide))).trans (g1)))) ((hn_n (Or.inr (by decide))).trans (hn_s)) ⟨Or.inr rfl, by decide, fun _ _ => rfl, fun _ h => absurd h (by decide), fun _ _ => rfl, fun _ h => absurd h (by decide)⟩ (fun _ => wz_sl) (fun _ _ => ⟨hn_s, Int.le_of_eq (hn_s).symm, fun _ => Int.le_of_eq (hn_s), fun _ => by rw [show _ = (0 : Int) from hn_s]; decide, fun _ => by rw [show _ = (0 : Int) from hn_s]; decide, by rw [show _ = (0 : Int) from hn_s]; decide⟩) (fun j => Eq.trans (congrArg rv_u8 ((hn_n (Or.inl ne)).trans ((hn_n (Or.inl ne)).trans ((hn_n (Or.inl ne)))))) (fb1 j)) (fun k al M2 r0 rn r4 r13 ra rw rnk ro r22 r21 => ?_)
                have k1 : 1 ≤ k := by
                  have h1 : rv_rn B n (n - q) q = rv_rn B n (n - q - 1) (q + 1) := by
                    rw [show n - q = (n - q - 1) + 1 by omega]; exact if_pos ⟨cq, rv_an_l l1 l2⟩
                  have h2 := rv_rn_ge B n (n - q - 1) (q + 1)
                  have h3 : rv_rn B n (n - q) q = q + k := r0
                  omega
                have hle := rv_nl_1 (rv_le_t l1 l2) k k1
                have hl := rv_nl_le B q k
                obtain ⟨a1, a2, a3, a4, a5, a6⟩ := ra
                have o2 := rv_o.tr (rv_o.tr (rv_o.tr (rv_o.tr o1 (rv_o.st (a := m) (j := 12) (by decide))) (rv_o.st (a := m) (j := 13) (by decide))) (rv_o.st (a := m) (j := 14) (by decide))) (ro.up (by decide))
                have l2x : ∀ a j, ¬ (a = m ∧ j = 17) → M2.2.1 a j = M.2.1 a j := fun a j g => (r21 a j g).trans ((wz_nl (Decidable.not_and_iff_or_not.mp g)).trans (g21 a j))
                have r12 : M2.1 m 12 = (q : Int) := (ro m 12 (by rintro ⟨-, h⟩; revert h; decide)).trans ((hn_n (Or.inr (by decide))).trans ((hn_n (Or.inr (by decide))).trans (hn_s)))
                refine w_aln rfl ?_
                refine w_iln rfl ?_
                refine w_ifeq (fun c101 => ?_) (fun c101 => ?_)
                · skip
                  refine w_ic ?_
                  refine w_goto ?_
                  refine w_pi hm rfl (by decide) rfl (fun q => by cases q) ?_
                  exact w_ret (hQ _ ⟨(rv_o.tr o2 (rv_o.st (a := m) (j := 11) (by decide))), l2x, r22.trans g22, Or.inr ⟨by omega, (hn_n (Or.inr (by decide))).trans (r12), Or.inr (Or.inr ⟨cq, rv_an_l l1 l2, k, k1, r0, rn, (hn_n (Or.inr (by decide))).trans (r4), Or.inr (Or.inr ⟨by omega, by omega, hn_s⟩)⟩)⟩⟩)
                · skip
                  refine w_aln rfl ?_
                  refine w_gi hm rfl (by decide) rfl (r13) ?_
                  refine w_iln rfl ?_
                  refine w_ifeq (fun c102 => ?_) (fun c102 => ?_)
                  · exfalso; omega
                  · skip
                    refine w_bp ?_
                    refine w_goto ?_
                    refine w_cmle (fun c103 => ?_) (fun c103 => ?_)
                    · skip
                      refine w_iln rfl ?_
                      refine w_ifeq (fun c104 => ?_) (fun c104 => ?_)
                      · exfalso; omega
                      · skip
                        refine w_ic ?_
                        refine w_goto ?_
                        refine w_pi hm rfl (by decide) rfl (fun q => by cases q) ?_
                        exact w_ret (hQ _ ⟨(rv_o.tr o2 (rv_o.st (a := m) (j := 11) (by decide))), l2x, r22.trans g22, Or.inr ⟨by omega, (hn_n (Or.inr (by decide))).trans (r12), Or.inr (Or.inr ⟨cq, rv_an_l l1 l2, k, k1, r0, rn, (hn_n (Or.inr (by decide))).trans (r4), Or.inl ⟨by omega, by omega, hn_s, rw (by omega)⟩⟩)⟩⟩)
                    · skip
                      refine w_ic ?_
                      refine w_goto ?_
                      refine w_pi hm rfl (by decide) rfl (fun q => by cases q) ?_
                      exact w_ret (hQ _ ⟨(rv_o.tr o2 (rv_o.st (a := m) (j := 11) (by decide))), l2x, r22.trans g22, Or.inr ⟨by omega, (hn_n (Or.inr (by decide))).trans (r12), Or.inr (Or.inr ⟨cq, rv_an_l l1 l2, k, k1, r0, rn, (hn_n (Or.inr (by decide))).trans (r4), Or.inr (Or.inr ⟨by omega, by omega, hn_s⟩)⟩)⟩⟩)
            · exfalso; omega
          · skip
            refine w_ifne (fun c16 => ?_) (fun c16 => ?_)
            · exfalso; omega
            · skip
              refine w_iln rfl ?_
              refine w_cs (st := []) rfl (Nat.le_of_ble_eq_true rfl) (fun kk h => h) (r_X12_isDigit (d := d) (fun d1 d2 => ?_) (fun d0 => ?_))
              · skip
                refine w_ifne (fun c17 => ?_) (fun c17 => ?_)
                · skip
                  refine w_iln rfl ?_
                  refine w_cs (st := []) rfl (Nat.le_of_ble_eq_true rfl) (fun kk h => h) (r_X12_isSmall (d := d) (fun a b => by exfalso; omega) (fun a => ?_))
                  · skip
                    refine w_isn ?_
                    refine w_ic ?_
                    refine w_isn ?_
                    refine w_aln rfl ?_
                    refine w_lc ?_
                    refine w_pl hm rfl (by decide) rfl ?_
                    refine w_aln rfl ?_
                    refine w_ic ?_
                    refine w_pi hm rfl (by decide) rfl (fun q => by cases q) ?_
                    have cq : q < n := by omega
                    refine r_nxt2 (q := q) (B := B) hm hb hn (n - q) 0 1 _ _ _ (by omega) (by omega) f11 ((hn_n (Or.inr (by decide))).trans ((hn_n (Or.inr (by decide))).trans ((hn_n (Or.inr (by decide))).trans (fs1)))) ((hn_n (Or.inr (by decide))).trans ((hn_n (Or.inr (by decide))).trans ((hn_n (Or.inr (by decide))).trans (g1)))) ((hn_n (Or.inr (by decide))).trans (hn_s)) ⟨Or.inr rfl, by decide, fun _ _ => rfl, fun _ h => absurd h (by decide), fun _ _ => rfl, fun _ h => absurd h (by decide)⟩ (fun _ => wz_sl) (fun _ _ => ⟨hn_s, Int.le_of_eq (hn_s).symm, fun _ => Int.le_of_eq (hn_s), fun _ => by rw [show _ = (0 : Int) from hn_s]; decide, fun _ => by rw [show _ = (0 : Int) from hn_s]; decide, by rw [show _ = (0 : Int) from hn_s]; decide⟩) (fun j => Eq.trans (congrArg rv_u8 ((hn_n (Or.inl ne)).trans ((hn_n (Or.inl ne)).trans ((hn_n (Or.inl ne)))))) (fb1 j)) (fun k al M2 r0 rn r4 r13 ra rw rnk ro r22 r21 => ?_)
                    have k1 : 1 ≤ k := by
                      have h1 : rv_rn B n (n - q) q = rv_rn B n (n - q - 1) (q + 1) := by
                        rw [show n - q = (n - q - 1) + 1 by omega]; exact if_pos ⟨cq, rv_an_d d1 d2⟩
                      have h2 := rv_rn_ge B n (n - q - 1) (q + 1)
                      have h3 : rv_rn B n (n - q) q = q + k := r0
                      omega
                    have hle := rv_nl_0 (rv_le_f l0) k k1
                    have hl := rv_nl_le B q k
                    obtain ⟨a1, a2, a3, a4, a5, a6⟩ := ra
                    have o2 := rv_o.tr (rv_o.tr (rv_o.tr (rv_o.tr o1 (rv_o.st (a := m) (j := 12) (by decide))) (rv_o.st (a := m) (j := 13) (by decide))) (rv_o.st (a := m) (j := 14) (by decide))) (ro.up (by decide))
                    have l2x : ∀ a j, ¬ (a = m ∧ j = 17) → M2.2.1 a j = M.2.1 a j := fun a j g => (r21 a j g).trans ((wz_nl (Decidable.not_and_iff_or_not.mp g)).trans (g21 a j))
                    have r12 : M2.1 m 12 = (q : Int) := (ro m 12 (by rintro ⟨-, h⟩; revert h; decide)).trans ((hn_n (Or.inr (by decide))).trans ((hn_n (Or.inr (by decide))).trans (hn_s)))
                    refine w_aln rfl ?_
                    refine w_iln rfl ?_
                    refine w_ifeq (fun c101 => ?_) (fun c101 => ?_)
                    · skip
                      refine w_ic ?_
                      refine w_goto ?_
                      refine w_pi hm rfl (by decide) rfl (fun q => by cases q) ?_
                      exact w_ret (hQ _ ⟨(rv_o.tr o2 (rv_o.st (a := m) (j := 11) (by decide))), l2x, r22.trans g22, Or.inr ⟨by omega, (hn_n (Or.inr (by decide))).trans (r12), Or.inr (Or.inr ⟨cq, rv_an_d d1 d2, k, k1, r0, rn, (hn_n (Or.inr (by decide))).trans (r4), Or.inr (Or.inr ⟨by omega, by omega, hn_s⟩)⟩)⟩⟩)
                    · skip
                      refine w_aln rfl ?_
                      refine w_gi hm rfl (by decide) rfl (r13) ?_
                      refine w_iln rfl ?_
                      refine w_ifeq (fun c102 => ?_) (fun c102 => ?_)
                      · skip
                        refine w_ic ?_
                        refine w_cmle (fun c103 => ?_) (fun c103 => ?_)
                        · skip
                          refine w_iln rfl ?_
                          refine w_ifeq (fun c104 => ?_) (fun c104 => ?_)
                          · skip
                            refine w_ic ?_
                            refine w_pi hm rfl (by decide) rfl (fun q => by cases q) ?_
                            exact w_ret (hQ _ ⟨(rv_o.tr o2 (rv_o.st (a := m) (j := 11) (by decide))), l2x, r22.trans g22, Or.inr ⟨by omega, (hn_n (Or.inr (by decide))).trans (r12), Or.inr (Or.inr ⟨cq, rv_an_d d1 d2, k, k1, r0, rn, (hn_n (Or.inr (by decide))).trans (r4), Or.inr (Or.inl ⟨by omega, by omega, by omega, hn_s, by rw [show (mj_p0 M2 m 11 2).1 m 14 = M2.1 m 14 from hn_n (Or.inr (by decide))]; exact rnk (by omega) (by omega)⟩)⟩)⟩⟩)
                          · exfalso; omega
                        · skip
                          refine w_ic ?_
                          refine w_goto ?_
                          refine w_pi hm rfl (by decide) rfl (fun q => by cases q) ?_
                          exact w_ret (hQ _ ⟨(rv_o.tr o2 (rv_o.st (a := m) (j := 11) (by decide))), l2x, r22.trans g22, Or.inr ⟨by omega, (hn_n (Or.inr (by decide))).trans (r12), Or.inr (Or.inr ⟨cq, rv_an_d d1 d2, k, k1, r0, rn, (hn_n (Or.inr (by decide))).trans (r4), Or.inr (Or.inr ⟨by omega, by omega, hn_s⟩)⟩)⟩⟩)
                      · exfalso; omega
                · exfalso; omega
              · skip
                refine w_ifne (fun c18 => ?_) (fun c18 => ?_)
                · exfalso; omega
                · skip
                  refine w_aln rfl ?_
                  refine w_iln rfl ?_
                  refine w_bp ?_
                  refine w_cmeq (fun c19 => ?_) (fun c19 => ?_)
                  · skip
                    refine w_ic ?_
                    refine w_goto ?_
                    refine w_pi hm rfl (by decide) rfl (fun q => by cases q) ?_
                    refine w_aln rfl ?_
                    refine w_iln rfl ?_
                    refine w_pi hm rfl (by decide) rfl (fun q => by cases q) ?_
                    refine w_aln rfl ?_
                    refine w_dupr ?_
                    refine w_gi hm rfl (by decide) rfl ((hn_n (Or.inr (by decide))).trans ((hn_n (Or.inr (by decide))).trans ((hn_n (Or.inr (by decide))).trans ((hn_n (Or.inr (by decide))).trans (g1))))) ?_
                    refine w_ic ?_
                    refine w_add ⟨by show (-2147483648 : Int) ≤ (q : Int) + 1; omega, by show (q : Int) + 1 < (2147483648 : Int); omega⟩ ?_
                    refine w_pi hm rfl (by decide) rfl (fun q => by cases q) ?_
                    exact w_ret (hQ _ ⟨(rv_o.tr (rv_o.tr (rv_o.tr (rv_o.tr (rv_o.tr o1 (rv_o.st (a := m) (j := 12) (by decide))) (rv_o.st (a := m) (j := 13) (by decide))) (rv_o.st (a := m) (j := 11) (by decide))) (rv_o.st (a := m) (j := 14) (by decide))) (rv_o.st (a := m) (j := 4) (by decide))), fun a j _ => g21 a j, g22, Or.inr ⟨by omega, (hn_n (Or.inr (by decide))).trans ((hn_n (Or.inr (by decide))).trans ((hn_n (Or.inr (by decide))).trans ((hn_n (Or.inr (by decide))).trans (hn_s)))), Or.inr (Or.inl ⟨by omega, rv_an_n l0 d0, (hn_n (Or.inr (by decide))).trans (hn_s), (hn_s).trans (by omega), Or.inl ⟨(hn_n (Or.inr (by decide))).trans ((hn_n (Or.inr (by decide))).trans (hn_s)), by omega⟩⟩)⟩⟩)
                  · skip
                    refine w_iln rfl ?_
                    refine w_bp ?_
                    refine w_cmeq (fun c20 => ?_) (fun c20 => ?_)
                    · skip
                      refine w_ic ?_
                      refine w_goto ?_
                      refine w_pi hm rfl (by decide) rfl (fun q => by cases q) ?_
                      refine w_aln rfl ?_
                      refine w_iln rfl ?_
                      refine w_pi hm rfl (by decide) rfl (fun q => by cases q) ?_
                      refine w_aln rfl ?_
                      refine w_dupr ?_
                      refine w_gi hm rfl (by decide) rfl ((hn_n (Or.inr (by decide))).trans ((hn_n (Or.inr (by decide))).trans ((hn_n (Or.inr (by decide))).trans ((hn_n (Or.inr (by decide))).trans (g1))))) ?_
                      refine w_ic ?_
                      refine w_add ⟨by show (-2147483648 : Int) ≤ (q : Int) + 1; omega, by show (q : Int) + 1 < (2147483648 : Int); omega⟩ ?_
                      refine w_pi hm rfl (by decide) rfl (fun q => by cases q) ?_
                      exact w_ret (hQ _ ⟨(rv_o.tr (rv_o.tr (rv_o.tr (rv_o.tr (rv_o.tr o1 (rv_o.st (a := m) (j := 12) (by decide))) (rv_o.st (a := m) (j := 13) (by decide))) (rv_o.st (a := m) (j := 11) (by decide))) (rv_o.st (a := m) (j := 14) (by decide))) (rv_o.st (a := m) (j := 4) (by decide))), fun a j _ => g21 a j, g22, Or.inr ⟨by omega, (hn_n (Or.inr (by decide))).trans ((hn_n (Or.inr (by decide))).trans ((hn_n (Or.inr (by decide))).trans ((hn_n (Or.inr (by decide))).trans (hn_s)))), Or.inr (Or.inl ⟨by omega, rv_an_n l0 d0, (hn_n (Or.inr (by decide))).trans (hn_s), (hn_s).trans (by omega), Or.inl ⟨(hn_n (Or.inr (by decide))).trans ((hn_n (Or.inr (by decide))).trans (hn_s)), by omega⟩⟩)⟩⟩)
                    · skip
                      refine w_iln rfl ?_
                      refine w_bp ?_
                      refine w_cmeq (fun c21 => ?_) (fun c21 => ?_)
                      · skip
                        refine w_ic ?_
                        refine w_goto ?_
                        refine w_pi hm rfl (by decide) rfl (fun q => by cases q) ?_
                        refine w_aln rfl ?_
                        refine w_iln rfl ?_
                        refine w_pi hm rfl (by decide) rfl (fun q => by cases q) ?_
                        refine w_aln rfl ?_
                        refine w_dupr ?_
                        refine w_gi hm rfl (by decide) rfl ((hn_n (Or.inr (by decide))).trans ((hn_n (Or.inr (by decide))).trans ((hn_n (Or.inr (by decide))).trans ((hn_n (Or.inr (by decide))).trans (g1))))) ?_
                        refine w_ic ?_
                        refine w_add ⟨by show (-2147483648 : Int) ≤ (q : Int) + 1; omega, by show (q : Int) + 1 < (2147483648 : Int); omega⟩ ?_
                        refine w_pi hm rfl (by decide) rfl (fun q => by cases q) ?_
                        exact w_ret (hQ _ ⟨(rv_o.tr (rv_o.tr (rv_o.tr (rv_o.tr (rv_o.tr o1 (rv_o.st (a := m) (j := 12) (by decide))) (rv_o.st (a := m) (j := 13) (by decide))) (rv_o.st (a := m) (j := 11) (by decide))) (rv_o.st (a := m) (j := 14) (by decide))) (rv_o.st (a := m) (j := 4) (by decide))), fun a j _ => g21 a j, g22, Or.inr ⟨by omega, (hn_n (Or.inr (by decide))).trans ((hn_n (Or.inr (by decide))).trans ((hn_n (Or.inr (by decide))).trans ((hn_n (Or.inr (by decide))).trans (hn_s)))), Or.inr (Or.inl ⟨by omega, rv_an_n l0 d0, (hn_n (Or.inr (by decide))).trans (hn_s), (hn_s).trans (by omega), Or.inl ⟨(hn_n (Or.inr (by decide))).trans ((hn_n (Or.inr (by decide))).trans (hn_s)), by omega⟩⟩)⟩⟩)
                      · skip
                        refine w_iln rfl ?_
                        refine w_bp ?_
                        refine w_cmlt (fun c22 => ?_) (fun c22 => ?_)
                        · skip
                          refine w_ic ?_
                          refine w_pi hm rfl (by decide) rfl (fun q => by cases q) ?_
                          refine w_aln rfl ?_
                          refine w_iln rfl ?_
                          refine w_pi hm rfl (by decide) rfl (fun q => by cases q) ?_
                          refine w_aln rfl ?_
                          refine w_dupr ?_
                          refine w_gi hm rfl (by decide) rfl ((hn_n (Or.inr (by decide))).trans ((hn_n (Or.inr (by decide))).trans ((hn_n (Or.inr (by decide))).trans ((hn_n (Or.inr (by decide))).trans (g1))))) ?_
                          refine w_ic ?_
                          refine w_add ⟨by show (-2147483648 : Int) ≤ (q : Int) + 1; omega, by show (q : Int) + 1 < (2147483648 : Int); omega⟩ ?_
                          refine w_pi hm rfl (by decide) rfl (fun q => by cases q) ?_
                          exact w_ret (hQ _ ⟨(rv_o.tr (rv_o.tr (rv_o.tr (rv_o.tr (rv_o.tr o1 (rv_o.st (a := m) (j := 12) (by decide))) (rv_o.st (a := m) (j := 13) (by decide))) (rv_o.st (a := m) (j := 11) (by decide))) (rv_o.st (a := m) (j := 14) (by decide))) (rv_o.st (a := m) (j := 4) (by decide))), fun a j _ => g21 a j, g22, Or.inr ⟨by omega, (hn_n (Or.inr (by decide))).trans ((hn_n (Or.inr (by decide))).trans ((hn_n (Or.inr (by decide))).trans ((hn_n (Or.inr (by decide))).trans (hn_s)))), Or.inr (Or.inl ⟨by omega, rv_an_n l0 d0, (hn_n (Or.inr (by decide))).trans (hn_s), (hn_s).trans (by omega), Or.inr ⟨(hn_n (Or.inr (by decide))).trans ((hn_n (Or.inr (by decide))).trans (hn_s)), by omega⟩⟩)⟩⟩)
                        · skip
                          refine w_iln rfl ?_
                          refine w_bp ?_
                          refine w_cmgt (fun c23 => ?_) (fun c23 => ?_)
                          · skip
                            refine w_ic ?_
                            refine w_pi hm rfl (by decide) rfl (fun q => by cases q) ?_
                            refine w_aln rfl ?_
                            refine w_iln rfl ?_
                            refine w_pi hm rfl (by decide) rfl (fun q => by cases q) ?_
                            refine w_aln rfl ?_
                            refine w_dupr ?_
                            refine w_gi hm rfl (by decide) rfl ((hn_n (Or.inr (by decide))).trans ((hn_n (Or.inr (by decide))).trans ((hn_n (Or.inr (by decide))).trans ((hn_n (Or.inr (by decide))).trans (g1))))) ?_
                            refine w_ic ?_
                            refine w_add ⟨by show (-2147483648 : Int) ≤ (q : Int) + 1; omega, by show (q : Int) + 1 < (2147483648 : Int); omega⟩ ?_
                            refine w_pi hm rfl (by decide) rfl (fun q => by cases q) ?_
                            exact w_ret (hQ _ ⟨(rv_o.tr (rv_o.tr (rv_o.tr (rv_o.tr (rv_o.tr o1 (rv_o.st (a := m) (j := 12) (by decide))) (rv_o.st (a := m) (j := 13) (by decide))) (rv_o.st (a := m) (j := 11) (by decide))) (rv_o.st (a := m) (j := 14) (by decide))) (rv_o.st (a := m) (j := 4) (by decide))), fun a j _ => g21 a j, g22, Or.inr ⟨by omega, (hn_n (Or.inr (by decide))).trans ((hn_n (Or.inr (by decide))).trans ((hn_n (Or.inr (by decide))).trans ((hn_n (Or.inr (by decide))).trans (hn_s)))), Or.inr (Or.inl ⟨by omega, rv_an_n l0 d0, (hn_n (Or.inr (by decide))).trans (hn_s), (hn_s).trans (by omega), Or.inr ⟨(hn_n (Or.inr (by decide))).trans ((hn_n (Or.inr (by decide))).trans (hn_s)), by omega⟩⟩)⟩⟩)
                          · skip
                            refine w_ic ?_
                            refine w_goto ?_
                            refine w_pi hm rfl (by decide) rfl (fun q => by cases q) ?_
                            refine w_aln rfl ?_
                            refine w_iln rfl ?_
                            refine w_pi hm rfl (by decide) rfl (fun q => by cases q) ?_
                            refine w_aln rfl ?_
                            refine w_dupr ?_
                            refine w_gi hm rfl (by decide) rfl ((hn_n (Or.inr (by decide))).trans ((hn_n (Or.inr (by decide))).trans ((hn_n (Or.inr (by decide))).trans ((hn_n (Or.inr (by decide))).trans (g1))))) ?_
                            refine w_ic ?_
                            refine w_add ⟨by show (-2147483648 : Int) ≤ (q : Int) + 1; omega, by show (q : Int) + 1 < (2147483648 : Int); omega⟩ ?_
                            refine w_pi hm rfl (by decide) rfl (fun q => by cases q) ?_
                            exact w_ret (hQ _ ⟨(rv_o.tr (rv_o.tr (rv_o.tr (rv_o.tr (rv_o.tr o1 (rv_o.st (a := m) (j := 12) (by decide))) (rv_o.st (a := m) (j := 13) (by decide))) (rv_o.st (a := m) (j := 11) (by decide))) (rv_o.st (a := m) (j := 14) (by decide))) (rv_o.st (a := m) (j := 4) (by decide))), fun a j _ => g21 a j, g22, Or.inr ⟨by omega, (hn_n (Or.inr (by decide))).trans ((hn_n (Or.inr (by decide))).trans ((hn_n (Or.inr (by decide))).trans ((hn_n (Or.inr (by decide))).trans (hn_s)))), Or.inr (Or.inl ⟨by omega, rv_an_n l0 d0, (hn_n (Or.inr (by decide))).trans (hn_s), (hn_s).trans (by omega), Or.inl ⟨(hn_n (Or.inr (by decide))).trans ((hn_n (Or.inr (by decide))).trans (hn_s)), by omega⟩⟩)⟩⟩)
        · skip
          refine w_aln rfl ?_
          refine w_ic ?_
          refine w_pi hm rfl (by decide) rfl (fun q => by cases q) ?_
          exact w_ret (hQ _ ⟨(rv_o.tr (rv_o.tr (rv_o.tr o1 (rv_o.st (a := m) (j := 12) (by decide))) (rv_o.st (a := m) (j := 13) (by decide))) (rv_o.st (a := m) (j := 11) (by decide))), fun a j _ => g21 a j, g22, Or.inr ⟨by omega, (hn_n (Or.inr (by decide))).trans ((hn_n (Or.inr (by decide))).trans (hn_s)), Or.inl ⟨by omega, hn_s⟩⟩⟩)
      · skip
        refine w_isn ?_
        refine w_iln rfl ?_
        refine w_ifge (fun c24 => ?_) (fun c24 => ?_)
        · exfalso; omega
        · skip
          refine w_aln rfl ?_
          refine w_ic ?_
          refine w_pi hm rfl (by decide) rfl (fun q => by cases q) ?_
          exact w_ret (hQ _ ⟨(rv_o.tr (rv_o.tr (rv_o.tr o1 (rv_o.st (a := m) (j := 12) (by decide))) (rv_o.st (a := m) (j := 13) (by decide))) (rv_o.st (a := m) (j := 11) (by decide))), fun a j _ => g21 a j, g22, Or.inr ⟨by omega, (hn_n (Or.inr (by decide))).trans ((hn_n (Or.inr (by decide))).trans (hn_s)), Or.inl ⟨by omega, hn_s⟩⟩⟩)
    · skip
      refine w_aln rfl ?_
      refine w_aln rfl ?_
      refine w_gi hm rfl (by decide) rfl ((hn_n (Or.inr (by decide))).trans ((hn_n (Or.inr (by decide))).trans (fm1))) ?_
      refine w_pi hm rfl (by decide) rfl (fun q => by cases q) ?_
      refine w_aln rfl ?_
      refine w_ic ?_
      refine w_pi hm rfl (by decide) rfl (fun q => by cases q) ?_
      exact w_ret (hQ _ ⟨(rv_o.tr (rv_o.tr (rv_o.tr (rv_o.tr o1 (rv_o.st (a := m) (j := 12) (by decide))) (rv_o.st (a := m) (j := 13) (by decide))) (rv_o.st (a := m) (j := 12) (by decide))) (rv_o.st (a := m) (j := 11) (by decide))), fun a j _ => g21 a j, g22, Or.inl ⟨by omega, by omega, hn_s, (hn_n (Or.inr (by decide))).trans (hn_s)⟩⟩)
end
section
/-! ===== bytes that come: by >>> or by >>, they are the same ===== -/
theorem rv_bk (x : BitVec 32) (s : Nat) (hs : s ≤ 24) : (x >>> s).setWidth 8 = (x.sshiftRight s).setWidth 8 := by
  apply BitVec.eq_of_getLsbD_eq
  intro i hi
  rw [BitVec.getLsbD_setWidth, BitVec.getLsbD_setWidth, BitVec.getLsbD_ushiftRight, BitVec.getLsbD_sshiftRight]
  have h1 : decide (32 ≤ i) = false := decide_eq_false (by omega)
  have h2 : s + i < 32 := by omega
  simp [h1, h2]
  try omega
theorem rv_kk (x s : Int32) (u : UInt32) (i : Nat) (hi : i ≤ 24) (hu : u.toBitVec % 32 = BitVec.ofNat 32 i) (hs : s.toBitVec.smod 32 = BitVec.ofNat 32 i) : ((x.toUInt32 >>> u).toInt32).toInt8 = (x >>> s).toInt8 := by
  apply Int8.toBitVec_inj.mp
  rw [Int32.toBitVec_toInt8, Int32.toBitVec_toInt8, UInt32.toBitVec_toInt32, UInt32.toBitVec_shiftRight, Int32.toBitVec_shiftRight, hu, hs, BitVec.signExtend_eq_setWidth_of_le _ (by decide), BitVec.signExtend_eq_setWidth_of_le _ (by decide)]
  have e : (BitVec.ofNat 32 i).toNat = i := by rw [BitVec.toNat_ofNat]; exact Nat.mod_eq_of_lt (by omega)
  show (x.toBitVec >>> (BitVec.ofNat 32 i).toNat).setWidth 8 = (x.toBitVec.sshiftRight (BitVec.ofNat 32 i).toNat).setWidth 8
  rw [e]
  exact rv_bk _ _ hi
theorem rv_b712 (v : Int) : ∀ j, j < 4 → rv_b7 v j = rv_b12 v j := by
  intro j hj
  unfold rv_b7 rv_b12 rv_s7 rv_s12
  rw [mj_it, mj_it]
  have h : j = 0 ∨ j = 1 ∨ j = 2 ∨ j = 3 := by omega
  rcases h with rfl | rfl | rfl | rfl
  · rw [rv_kk (Int32.ofInt v) (Int32.ofInt (24 - 8 * ((0 : Nat) : Int)) &&& 31) _ 24 (by decide) (by decide) (by decide)]
  · rw [rv_kk (Int32.ofInt v) (Int32.ofInt (24 - 8 * ((1 : Nat) : Int)) &&& 31) _ 16 (by decide) (by decide) (by decide)]
  · rw [rv_kk (Int32.ofInt v) (Int32.ofInt (24 - 8 * ((2 : Nat) : Int)) &&& 31) _ 8 (by decide) (by decide) (by decide)]
  · rw [rv_kk (Int32.ofInt v) (Int32.ofInt (24 - 8 * ((3 : Nat) : Int)) &&& 31) _ 0 (by decide) (by decide) (by decide)]
end
section
/-! ===== tokens as pure things ===== -/
/-- the letters of a run of k bytes from q on, the last first -/
def rv_wls (B : Nat → Int) (q : Nat) : Nat → List Int
  | 0 => []
  | k + 1 => B (q + k) :: rv_wls B q k
/-- codes of five and of eight bits a letter -/
def rv_5 : List Int → Int64
  | [] => 0
  | x :: t => rv_5 t <<< ((Int32.ofInt 5).toInt64 &&& 63) ||| (Int32.ofInt (x - 96)).toInt64
def rv_8 : List Int → Int64
  | [] => 0
  | x :: t => rv_8 t <<< ((Int32.ofInt 8).toInt64 &&& 63) ||| (Int32.ofInt x).toInt64
theorem rv_c55 (B : Nat → Int) (q : Nat) : ∀ k, rv_c5 B q k = rv_5 (rv_wls B q k)
  | 0 => rfl
  | k + 1 => by
    show rv_c5 B q k <<< _ ||| _ = rv_5 (rv_wls B q k) <<< _ ||| _
    rw [rv_c55 B q k]
theorem rv_w88 (B : Nat → Int) (q : Nat) : ∀ k, rv_w8 B q k = rv_8 (rv_wls B q k)
  | 0 => rfl
  | k + 1 => by
    show rv_w8 B q k <<< _ ||| _ = rv_8 (rv_wls B q k) <<< _ ||| _
    rw [rv_w88 B q k]
/-- a word: eight letters at most -/
def rv_wo (w : List Int) : Prop := w.length ≤ 8 ∧ ∀ x ∈ w, 97 ≤ x ∧ x ≤ 122
def rv_5n : List Int → Nat
  | [] => 0
  | x :: t => rv_5n t * 32 + (x - 96).toNat
def rv_8n : List Int → Nat
  | [] => 0
  | x :: t => rv_8n t * 256 + x.toNat
theorem rv_6n (a : Nat) (h : a < 2 ^ 63) : (Int64.ofNat a).toInt = a := Int64.toInt_ofNat_of_lt h
theorem rv_6i {a b : Nat} (ha : a < 2 ^ 63) (hb : b < 2 ^ 63) (h : Int64.ofNat a = Int64.ofNat b) : a = b := by
  have := congrArg Int64.toInt h
  rw [rv_6n a ha, rv_6n b hb] at this
  exact Int.ofNat.inj this
theorem rv_sb {N y i : Nat} (s : Int64) (hs : s.toBitVec.smod 64 = BitVec.ofNat 64 i) (hi : i < 64) (h : N * 2 ^ i + y < 2 ^ 63) (hy : y < 2 ^ i) : Int64.ofNat N <<< s ||| Int64.ofNat y = Int64.ofNat (N * 2 ^ i + y) := by
  apply Int64.toBitVec_inj.mp
  rw [Int64.toBitVec_or, Int64.toBitVec_shiftLeft, hs]
  apply BitVec.eq_of_toNat_eq
  have hN : N < 2 ^ 63 := Nat.lt_of_le_of_lt (Nat.le_trans (Nat.le_mul_of_pos_right N (Nat.two_pow_pos i)) (Nat.le_add_right _ _)) h
  have hy2 : y < 2 ^ 63 := Nat.lt_of_le_of_lt (Nat.le_add_left _ _) h
  have e1 : (Int64.ofNat N).toBitVec.toNat = N := by
    show (BitVec.ofNat 64 N).toNat = N
    rw [BitVec.toNat_ofNat]; exact Nat.mod_eq_of_lt (by omega)
  have e2 : (Int64.ofNat y).toBitVec.toNat = y := by
    show (BitVec.ofNat 64 y).toNat = y
    rw [BitVec.toNat_ofNat]; exact Nat.mod_eq_of_lt (by omega)
  have e3 : (Int64.ofNat (N * 2 ^ i + y)).toBitVec.toNat = N * 2 ^ i + y := by
    show (BitVec.ofNat 64 _).toNat = _
    rw [BitVec.toNat_ofNat]; exact Nat.mod_eq_of_lt (by omega)
  rw [BitVec.toNat_or, e3, e2, BitVec.shiftLeft_eq', BitVec.toNat_shiftLeft, e1, BitVec.toNat_ofNat, Nat.mod_eq_of_lt (show i < 2 ^ 64 by omega), Nat.mod_eq_of_lt (show N <<< i < 2 ^ 64 by rw [Nat.shiftLeft_eq]; omega), ← Nat.shiftLeft_add_eq_or_of_lt hy, Nat.shiftLeft_eq]
theorem rv_il (z : Int) (h0 : 0 ≤ z) (h1 : z < 2147483648) : (Int32.ofInt z).toInt64 = Int64.ofNat z.toNat := by
  apply Int64.toInt_inj.mp
  rw [Int32.toInt_toInt64, mj_ti ⟨by omega, h1⟩, rv_6n _ (by omega)]
  omega
theorem rv_5e : ∀ w : List Int, (∀ x ∈ w, 97 ≤ x ∧ x ≤ 122) → w.length ≤ 8 → rv_5 w = Int64.ofNat (rv_5n w) ∧ rv_5n w < 2 ^ (5 * w.length)
  | [], _, _ => ⟨rfl, by decide⟩
  | x :: t, h, hl => by
    have hl' : t.length + 1 ≤ 8 := hl
    obtain ⟨e, b⟩ := rv_5e t (fun y hy => h y (List.mem_cons_of_mem _ hy)) (by omega)
    have hx := h x List.mem_cons_self
    have p1 : 2 ^ (5 * t.length) * 32 = 2 ^ (5 * (x :: t).length) := by
      rw [show 5 * (x :: t).length = 5 * t.length + 5 from by show 5 * (t.length + 1) = _; omega, Nat.pow_add]
    have p2 : 2 ^ (5 * (x :: t).length) ≤ 2 ^ 40 := Nat.pow_le_pow_right (by decide) (by show 5 * (t.length + 1) ≤ 40; omega)
    have y1 : (x - 96).toNat < 32 := by omega
    have r : rv_5n t * 32 + (x - 96).toNat < 2 ^ (5 * (x :: t).length) := by
      have : (rv_5n t + 1) * 32 ≤ 2 ^ (5 * t.length) * 32 := Nat.mul_le_mul_right 32 b
      rw [p1] at this
      omega
    refine ⟨?_, r⟩
    show rv_5 t <<< ((Int32.ofInt 5).toInt64 &&& 63) ||| (Int32.ofInt (x - 96)).toInt64 = Int64.ofNat (rv_5n t * 32 + (x - 96).toNat)
    rw [e, rv_il (x - 96) (by omega) (by omega)]
    exact rv_sb (N := rv_5n t) (i := 5) ((Int32.ofInt 5).toInt64 &&& 63) (by decide) (by decide) (by omega) y1
theorem rv_8e : ∀ w : List Int, (∀ x ∈ w, 97 ≤ x ∧ x ≤ 122) → w.length ≤ 8 → rv_8 w = Int64.ofNat (rv_8n w) ∧ 2 * rv_8n w < 2 ^ (8 * w.length)
  | [], _, _ => ⟨rfl, by decide⟩
  | x :: t, h, hl => by
    have hl' : t.length + 1 ≤ 8 := hl
    obtain ⟨e, b⟩ := rv_8e t (fun y hy => h y (List.mem_cons_of_mem _ hy)) (by omega)
    have hx := h x List.mem_cons_self
    have p1 : 2 ^ (8 * t.length) * 256 = 2 ^ (8 * (x :: t).length) := by
      rw [show 8 * (x :: t).length = 8 * t.length + 8 from by show 8 * (t.length + 1) = _; omega, Nat.pow_add]
    have p2 : 2 ^ (8 * (x :: t).length) ≤ 2 ^ 64 := Nat.pow_le_pow_right (by decide) (by show 8 * (t.length + 1) ≤ 64; omega)
    have y1 : x.toNat < 256 := by omega
    have r : 2 * (rv_8n t * 256 + x.toNat) < 2 ^ (8 * (x :: t).length) := by
      have : (2 * rv_8n t + 1) * 256 ≤ 2 ^ (8 * t.length) * 256 := Nat.mul_le_mul_right 256 b
      rw [p1] at this
      omega
    refine ⟨?_, r⟩
    show rv_8 t <<< ((Int32.ofInt 8).toInt64 &&& 63) ||| (Int32.ofInt x).toInt64 = Int64.ofNat (rv_8n t * 256 + x.toNat)
    rw [e, rv_il x (by omega) (by omega)]
    exact rv_sb (N := rv_8n t) (i := 8) ((Int32.ofInt 8).toInt64 &&& 63) (by decide) (by decide) (by omega) y1
theorem rv_5u : ∀ w w' : List Int, (∀ x ∈ w, 97 ≤ x ∧ x ≤ 122) → (∀ x ∈ w', 97 ≤ x ∧ x ≤ 122) → rv_5n w = rv_5n w' → w = w'
  | [], [], _, _, _ => rfl
  | [], y :: u, _, h', e => by
    have := h' y List.mem_cons_self
    have e : 0 = rv_5n u * 32 + (y - 96).toNat := e
    omega
  | x :: t, [], h, _, e => by
    have := h x List.mem_cons_self
    have e : rv_5n t * 32 + (x - 96).toNat = 0 := e
    omega
  | x :: t, y :: u, h, h', e => by
    have hx := h x List.mem_cons_self
    have hy := h' y List.mem_cons_self
    have e : rv_5n t * 32 + (x - 96).toNat = rv_5n u * 32 + (y - 96).toNat := e
    have e1 : rv_5n t = rv_5n u := by omega
    have e2 : x = y := by omega
    rw [e2, rv_5u t u (fun z hz => h z (List.mem_cons_of_mem _ hz)) (fun z hz => h' z (List.mem_cons_of_mem _ hz)) e1]
theorem rv_8u : ∀ w w' : List Int, (∀ x ∈ w, 97 ≤ x ∧ x ≤ 122) → (∀ x ∈ w', 97 ≤ x ∧ x ≤ 122) → rv_8n w = rv_8n w' → w = w'
  | [], [], _, _, _ => rfl
  | [], y :: u, _, h', e => by
    have := h' y List.mem_cons_self
    have e : 0 = rv_8n u * 256 + y.toNat := e
    omega
  | x :: t, [], h, _, e => by
    have := h x List.mem_cons_self
    have e : rv_8n t * 256 + x.toNat = 0 := e
    omega
  | x :: t, y :: u, h, h', e => by
    have hx := h x List.mem_cons_self
    have hy := h' y List.mem_cons_self
    have e : rv_8n t * 256 + x.toNat = rv_8n u * 256 + y.toNat := e
    have e1 : rv_8n t = rv_8n u := by omega
    have e2 : x = y := by omega
    rw [e2, rv_8u t u (fun z hz => h z (List.mem_cons_of_mem _ hz)) (fun z hz => h' z (List.mem_cons_of_mem _ hz)) e1]
theorem rv_5i {w w' : List Int} (h : rv_wo w) (h' : rv_wo w') (e : rv_5 w = rv_5 w') : w = w' := by
  obtain ⟨e1, b1⟩ := rv_5e w h.2 h.1
  obtain ⟨e2, b2⟩ := rv_5e w' h'.2 h'.1
  have p1 : 2 ^ (5 * w.length) ≤ 2 ^ 40 := Nat.pow_le_pow_right (by decide) (by have := h.1; omega)
  have p2 : 2 ^ (5 * w'.length) ≤ 2 ^ 40 := Nat.pow_le_pow_right (by decide) (by have := h'.1; omega)
  rw [e1, e2] at e
  exact rv_5u w w' h.2 h'.2 (rv_6i (by omega) (by omega) e)
theorem rv_8i {w w' : List Int} (h : rv_wo w) (h' : rv_wo w') (e : rv_8 w = rv_8 w') : w = w' := by
  obtain ⟨e1, b1⟩ := rv_8e w h.2 h.1
  obtain ⟨e2, b2⟩ := rv_8e w' h'.2 h'.1
  have p1 : 2 ^ (8 * w.length) ≤ 2 ^ 64 := Nat.pow_le_pow_right (by decide) (by have := h.1; omega)
  have p2 : 2 ^ (8 * w'.length) ≤ 2 ^ 64 := Nat.pow_le_pow_right (by decide) (by have := h'.1; omega)
  rw [e1, e2] at e
  exact rv_8u w w' h.2 h'.2 (rv_6i (by omega) (by omega) e)
/-- the words that texts know -/
def rv_rs : List (List Int) := [[110, 119, 111, 116], [114, 101, 116, 97, 119], [100, 105, 98], [100, 101, 101, 110], [108, 108, 105, 109], [101, 103, 100, 105, 114, 98], [100, 108, 101, 105, 102], [101, 118, 111, 109], [104, 115, 105, 102], [101, 99, 110, 101, 105, 116, 97, 112], [116, 101, 108], [97, 101, 115], [114, 111], [100, 110, 97], [116, 111, 110], [101, 114, 111, 104, 115], [121, 116, 115, 114, 105, 104, 116], [100, 110, 111, 112], [101, 115, 114, 117, 112], [100, 105, 97, 112], [121, 114, 100], [115, 116, 101, 108], [110, 101, 101, 114, 103], [101, 99, 97, 108, 112]]
theorem rv_rs_o : ∀ j, j < 24 → rv_wo (rv_rs.getD j []) := by
  intro j hj
  have h : ∀ j : Fin 24, (rv_rs.getD j.val []).length ≤ 8 ∧ ∀ x ∈ rv_rs.getD j.val [], 97 ≤ x ∧ x ≤ 122 := by decide +kernel
  exact h ⟨j, hj⟩
theorem rv_rs_5 : ∀ j, j < 24 → rv_5 (rv_rs.getD j []) = mj_wc.getD j 0 := by
  intro j hj
  have h : ∀ j : Fin 24, rv_5 (rv_rs.getD j.val []) = mj_wc.getD j.val 0 := by decide +kernel
  exact h ⟨j, hj⟩
theorem rv_rs_i : ∀ i, i < 24 → ∀ j, j < 24 → rv_rs.getD i [] = rv_rs.getD j [] → i = j := by
  intro i hi j hj e
  have h : ∀ i j : Fin 24, rv_rs.getD i.val [] = rv_rs.getD j.val [] → i.val = j.val := by decide +kernel
  exact h ⟨i, hi⟩ ⟨j, hj⟩ e
/-- a word is a NAME if texts don't know it -/
def rv_nam (w : List Int) : Prop := ∀ j, j < 24 → rv_rs.getD j [] ≠ w
theorem rv_nam5 {w : List Int} (h : rv_wo w) : rv_nam w ↔ ∀ j, j < 24 → mj_wc.getD j 0 ≠ rv_5 w := by
  refine ⟨fun q j hj e => q j hj (rv_5i (rv_rs_o j hj) h (by rw [rv_rs_5 j hj]; exact e)), fun q j hj e => q j hj (by rw [← rv_rs_5 j hj, e])⟩
/-- a run's letters are a word -/
theorem rv_nl_all {B : Nat → Int} {q : Nat} : ∀ k, rv_nl B q k = k → ∀ x ∈ rv_wls B q k, 97 ≤ x ∧ x ≤ 122
  | 0, _, x, hx => by cases hx
  | k + 1, h, x, hx => by
    have h1 := rv_nl_le B q k
    have h : rv_nl B q k + (if rv_le (B (q + k)) = true then 1 else 0) = k + 1 := h
    by_cases c : rv_le (B (q + k)) = true
    · rw [if_pos c] at h
      rcases List.mem_cons.mp hx with e | e
      · rw [e]; exact of_decide_eq_true c
      · exact rv_nl_all k (by omega) x e
    · rw [if_neg c] at h; omega
theorem rv_wls_len {B : Nat → Int} {q : Nat} : ∀ k, (rv_wls B q k).length = k
  | 0 => rfl
  | k + 1 => by show (rv_wls B q k).length + 1 = _; rw [rv_wls_len k]
/-- the token that a run of k bytes from q on is -/
def rv_Tr (B : Nat → Int) (q k : Nat) : Nat × Nat × Int × List Int × Nat := (if rv_nl B q k = k ∧ k ≤ 8 then 1 else if rv_nl B q k = 0 ∧ k ≤ 3 then 2 else 4, q, rv_nu B q k, rv_wls B q k, q + k)
/-- the token from p on: kind (0 the end, 1 a word, 2 a number, 3 a sign, 4 a bad run, 5 the most bytes are over), where, its number or sign, its letters, what is behind it -/
def rv_T (B : Nat → Int) (n lim p : Nat) : Nat × Nat × Int × List Int × Nat :=
  if min n lim ≤ rv_sk B (min n lim) (min n lim - p) p then (if n ≤ lim then 0 else 5, min n lim, 0, [], rv_sk B (min n lim) (min n lim - p) p)
  else if rv_an (B (rv_sk B (min n lim) (min n lim - p) p)) = true then rv_Tr B (rv_sk B (min n lim) (min n lim - p) p) (rv_rn B n (n - rv_sk B (min n lim) (min n lim - p) p) (rv_sk B (min n lim) (min n lim - p) p) - rv_sk B (min n lim) (min n lim - p) p)
  else (3, rv_sk B (min n lim) (min n lim - p) p, B (rv_sk B (min n lim) (min n lim - p) p), [], rv_sk B (min n lim) (min n lim - p) p + 1)
section TT
variable {B : Nat → Int} {n lim p q k : Nat} (hq : rv_sk B (min n lim) (min n lim - p) p = q)
theorem rv_T_e (hq : rv_sk B (min n lim) (min n lim - p) p = q) (c1 : min n lim ≤ q) : rv_T B n lim p = (if n ≤ lim then 0 else 5, min n lim, 0, [], q) := by
  unfold rv_T; rw [hq, if_pos c1]
theorem rv_T_r (hq : rv_sk B (min n lim) (min n lim - p) p = q) (c1 : q < min n lim) (c2 : rv_an (B q) = true) (hk : rv_rn B n (n - q) q = q + k) : rv_T B n lim p = rv_Tr B q k := by
  unfold rv_T; rw [hq, if_neg (Nat.not_le.mpr c1), if_pos c2, hk, Nat.add_sub_cancel_left]
theorem rv_T_s (hq : rv_sk B (min n lim) (min n lim - p) p = q) (c1 : q < min n lim) (c2 : ¬ rv_an (B q) = true) : rv_T B n lim p = (3, q, B q, [], q + 1) := by
  unfold rv_T; rw [hq, if_neg (Nat.not_le.mpr c1), if_neg c2]
theorem rv_Tr_1 (c : rv_nl B q k = k ∧ k ≤ 8) : rv_Tr B q k = (1, q, rv_nu B q k, rv_wls B q k, q + k) := by unfold rv_Tr; rw [if_pos c]
theorem rv_Tr_2 (c : ¬ (rv_nl B q k = k ∧ k ≤ 8)) (c2 : rv_nl B q k = 0 ∧ k ≤ 3) : rv_Tr B q k = (2, q, rv_nu B q k, rv_wls B q k, q + k) := by unfold rv_Tr; rw [if_neg c, if_pos c2]
theorem rv_Tr_4 (c : ¬ (rv_nl B q k = k ∧ k ≤ 8)) (c2 : ¬ (rv_nl B q k = 0 ∧ k ≤ 3)) : rv_Tr B q k = (4, q, rv_nu B q k, rv_wls B q k, q + k) := by unfold rv_Tr; rw [if_neg c, if_neg c2]
end TT
/-- the token of the tape of the class -/
def rv_tc (G : mj_G) (t : Nat × Nat × Int × List Int × Nat) (tp : Nat) (M : mj_M) : Prop :=
  ((t.1 = 5 ∧ M.1 tp 4 = 0) ∨ (t.1 ≠ 5 ∧ M.1 tp 4 = (t.1 : Int))) ∧ M.1 tp 5 = (t.2.1 : Int) ∧ M.1 tp 11 = (t.2.2.2.2 : Int) ∧ (t.1 = 2 → M.1 tp 6 = t.2.2.1 ∧ 0 ≤ t.2.2.1 ∧ t.2.2.1 ≤ 999) ∧ (t.1 = 3 → M.1 tp 7 = t.2.2.1) ∧ (t.1 = 1 → M.2.1 tp 8 = rv_5 t.2.2.2.1 ∧ rv_wd G (rv_5 t.2.2.2.1) (M.2.2 tp 9)) ∧ (t.1 ≠ 1 → M.2.2 tp 9 = none)
theorem rv_adv_T {G : mj_G} {B : Nat → Int} {n lim tp p : Nat} {M M' : mj_M} (h : rv_adv G B n (min n lim) tp p (rv_sk B (min n lim) (min n lim - p) p) M M') : rv_tc G (rv_T B n lim p) tp M' := by
  obtain ⟨-, -, -, h⟩ := h
  generalize hq : rv_sk B (min n lim) (min n lim - p) p = q at h
  rcases h with ⟨c1, h4, h5, h11, h9⟩ | ⟨c1, c2, h5, k, hk, hkn, h11, hr⟩ | ⟨c1, c2, h5, h4, h7, h11, h9⟩
  · rw [rv_T_e hq c1]
    refine ⟨?_, h5, h11, ?_, ?_, ?_, fun _ => h9⟩
    · by_cases c : n ≤ lim
      · rw [if_pos c]; exact Or.inr ⟨by show (0 : Nat) ≠ 5; decide, h4⟩
      · rw [if_neg c]; exact Or.inl ⟨rfl, h4⟩
    · intro e; revert e; show (if n ≤ lim then 0 else 5) = 2 → _; split <;> intro e <;> exact absurd e (by decide)
    · intro e; revert e; show (if n ≤ lim then 0 else 5) = 3 → _; split <;> intro e <;> exact absurd e (by decide)
    · intro e; revert e; show (if n ≤ lim then 0 else 5) = 1 → _; split <;> intro e <;> exact absurd e (by decide)
  · rw [rv_T_r hq c1 c2 hk]
    rcases hr with ⟨d1, d2, h4, h8, h9⟩ | ⟨d1, d2, d3, h4, h6, h9⟩ | ⟨d1, d2, h4, h9⟩
    · rw [rv_Tr_1 ⟨d1, d2⟩]
      exact ⟨Or.inr ⟨by show (1 : Nat) ≠ 5; decide, h4⟩, h5, h11, fun e => absurd e (by show (1 : Nat) ≠ 2; decide), fun e => absurd e (by show (1 : Nat) ≠ 3; decide), fun _ => ⟨h8.trans (rv_c55 B q k), by show rv_wd G (rv_5 (rv_wls B q k)) _; rw [← rv_c55 B q k]; exact h9⟩, fun e => absurd rfl e⟩
    · rw [rv_Tr_2 d1 ⟨d2, d3⟩]
      exact ⟨Or.inr ⟨by show (2 : Nat) ≠ 5; decide, h4⟩, h5, h11, fun _ => ⟨h6.1, by show 0 ≤ rv_nu B q k; rw [← h6.1]; exact h6.2.1, by show rv_nu B q k ≤ 999; rw [← h6.1]; exact h6.2.2.2.2.2⟩, fun e => absurd e (by show (2 : Nat) ≠ 3; decide), fun e => absurd e (by show (2 : Nat) ≠ 1; decide), fun _ => h9⟩
    · rw [rv_Tr_4 d1 d2]
      exact ⟨Or.inr ⟨by show (4 : Nat) ≠ 5; decide, h4⟩, h5, h11, fun e => absurd e (by show (4 : Nat) ≠ 2; decide), fun e => absurd e (by show (4 : Nat) ≠ 3; decide), fun e => absurd e (by show (4 : Nat) ≠ 1; decide), fun _ => h9⟩
  · rw [rv_T_s hq c1 c2]
    exact ⟨Or.inr ⟨by show (3 : Nat) ≠ 5; decide, h4⟩, h5, h11, fun e => absurd e (by show (3 : Nat) ≠ 2; decide), fun _ => h7, fun e => absurd e (by show (3 : Nat) ≠ 1; decide), fun _ => h9⟩
/-- what holds of a token -/
def rv_tw (n p : Nat) (t : Nat × Nat × Int × List Int × Nat) : Prop :=
  t.1 ≤ 5 ∧ p ≤ t.2.2.2.2 ∧ t.2.1 ≤ n ∧ (t.1 ≠ 0 → t.1 ≠ 5 → p < t.2.2.2.2) ∧ (t.1 = 1 → rv_wo t.2.2.2.1) ∧ t.2.2.2.2 ≤ n
theorem rv_T_w {B : Nat → Int} {n lim p : Nat} (hp : p ≤ n) : rv_tw n p (rv_T B n lim p) := by
  generalize hq : rv_sk B (min n lim) (min n lim - p) p = q
  have q1 : p ≤ q := by rw [← hq]; exact rv_sk_ge _ _ _ _
  have q2 : q ≤ n := by
    rw [← hq]
    rcases Nat.le_total p (min n lim) with c | c
    · have := rv_sk_le B (min n lim) (min n lim - p) p c; omega
    · rw [show min n lim - p = 0 by omega]; exact hp
  rcases Nat.lt_or_ge q (min n lim) with c1 | c1
  · by_cases c2 : rv_an (B q) = true
    · have r1 : rv_rn B n (n - q) q = rv_rn B n (n - q - 1) (q + 1) := by
        rw [show n - q = (n - q - 1) + 1 by omega]; exact if_pos ⟨by omega, c2⟩
      have r2 := rv_rn_ge B n (n - q - 1) (q + 1)
      have r3 := rv_rn_le B n (n - q) q q2
      have hk : rv_rn B n (n - q) q = q + (rv_rn B n (n - q) q - q) := by omega
      generalize rv_rn B n (n - q) q - q = k at hk
      rw [rv_T_r hq c1 c2 hk]
      refine ⟨?_, by show p ≤ q + k; omega, q2, fun _ _ => by show p < q + k; omega, ?_, by show q + k ≤ n; omega⟩
      · show (if _ then 1 else if _ then 2 else 4) ≤ 5
        split
        · decide
        · split <;> decide
      · show (if _ then 1 else if _ then 2 else 4) = 1 → rv_wo (rv_wls B q k)
        split
        · rename_i c
          exact fun _ => ⟨by rw [rv_wls_len]; exact c.2, rv_nl_all k c.1⟩
        · split <;> intro e <;> exact absurd e (by decide)
    · rw [rv_T_s hq c1 c2]
      exact ⟨by show 3 ≤ 5; decide, by show p ≤ q + 1; omega, q2, fun _ _ => by show p < q + 1; omega, fun e => absurd e (by show (3 : Nat) ≠ 1; decide), by show q + 1 ≤ n; omega⟩
  · rw [rv_T_e hq c1]
    refine ⟨?_, q1, by show min n lim ≤ n; omega, ?_, ?_, q2⟩
    · show (if n ≤ lim then 0 else 5) ≤ 5
      split <;> decide
    · show (if n ≤ lim then 0 else 5) ≠ 0 → (if n ≤ lim then 0 else 5) ≠ 5 → _
      split
      · intro e; exact absurd rfl e
      · intro _ e; exact absurd rfl e
    · show (if n ≤ lim then 0 else 5) = 1 → _
      split <;> intro e <;> exact absurd e (by decide)
/-- the blanks are skipped alike, by the one up to e, by the other up to n -/
theorem rv_sk_2 {B : Nat → Int} {e n : Nat} (he : e ≤ n) : ∀ f p, p + f = e → (rv_sk B e f p < e → rv_sk B n (n - p) p = rv_sk B e f p) ∧ (e ≤ rv_sk B e f p → e ≤ rv_sk B n (n - p) p)
  | 0, p, h => ⟨fun c => absurd c (by show ¬ p < e; omega), fun _ => Nat.le_trans (by omega) (rv_sk_ge B n (n - p) p)⟩
  | f + 1, p, h => by
    have h1 := rv_sk_2 (B := B) he f (p + 1) (by omega)
    unfold rv_sk
    rw [show n - p = (n - (p + 1)) + 1 by omega]
    show (_ → (if p < n ∧ (B p = 32 ∨ B p = 10) then rv_sk B n (n - (p + 1)) (p + 1) else p) = _) ∧ (_ → e ≤ (if p < n ∧ (B p = 32 ∨ B p = 10) then rv_sk B n (n - (p + 1)) (p + 1) else p))
    by_cases c : B p = 32 ∨ B p = 10
    · rw [if_pos ⟨by omega, c⟩, if_pos ⟨by omega, c⟩]; exact h1
    · rw [if_neg (fun q => c q.2), if_neg (fun q => c q.2)]; exact ⟨fun _ => rfl, fun q => q⟩
/-- the token of the reference -/
def rv_tr (t : Nat × Nat × Int × List Int × Nat) (m : Nat) (M : mj_M) : Prop :=
  (t.1 = 0 → M.1 m 11 = 0) ∧ (t.1 = 1 → M.1 m 11 = 1 ∧ M.2.1 m 17 = rv_8 t.2.2.2.1) ∧ (t.1 = 2 → M.1 m 11 = 2 ∧ M.1 m 14 = t.2.2.1 ∧ 0 ≤ t.2.2.1 ∧ t.2.2.1 ≤ 999) ∧ (t.1 = 3 → M.1 m 14 = t.2.2.1 ∧ ((M.1 m 11 = 3 ∧ (t.2.2.1 = 59 ∨ t.2.2.1 = 40 ∨ t.2.2.1 = 41 ∨ (60 ≤ t.2.2.1 ∧ t.2.2.1 ≤ 62))) ∨ (M.1 m 11 = 4 ∧ ¬ (t.2.2.1 = 59 ∨ t.2.2.1 = 40 ∨ t.2.2.1 = 41 ∨ (60 ≤ t.2.2.1 ∧ t.2.2.1 ≤ 62))))) ∧ (t.1 = 4 → M.1 m 11 = 4) ∧ (t.1 = 5 → M.1 m 11 = 4) ∧ M.1 m 12 = (t.2.1 : Int) ∧ (t.1 ≠ 0 → t.1 ≠ 5 → M.1 m 4 = (t.2.2.2.2 : Int))
theorem rv_nx_T {B : Nat → Int} {n lim m p : Nat} {M M' : mj_M} (hp : p ≤ n) (h : rv_nx B n lim m (rv_sk B n (n - p) p) M M') : rv_tr (rv_T B n lim p) m M' := by
  obtain ⟨-, -, -, h⟩ := h
  have key : (∃ q, q < min n lim ∧ rv_sk B (min n lim) (min n lim - p) p = q ∧ rv_sk B n (n - p) p = q) ∨ (min n lim ≤ rv_sk B (min n lim) (min n lim - p) p ∧ min n lim ≤ rv_sk B n (n - p) p) := by
    rcases Nat.le_total p (min n lim) with c | c
    · have h2 := rv_sk_2 (B := B) (e := min n lim) (n := n) (by omega) (min n lim - p) p (by omega)
      rcases Nat.lt_or_ge (rv_sk B (min n lim) (min n lim - p) p) (min n lim) with c1 | c1
      · exact Or.inl ⟨_, c1, rfl, h2.1 c1⟩
      · exact Or.inr ⟨c1, h2.2 c1⟩
    · exact Or.inr ⟨Nat.le_trans c (rv_sk_ge _ _ _ _), Nat.le_trans c (rv_sk_ge _ _ _ _)⟩
  rcases key with ⟨q, c1, e1, e2⟩ | ⟨c1, c2⟩
  · rw [e2] at h
    rcases h with ⟨g1, g2, -⟩ | ⟨-, h12, h⟩
    · exfalso; omega
    · rcases h with ⟨g, -⟩ | ⟨g1, g2, h14, h4, hs⟩ | ⟨g1, g2, k, k1, hk, hkn, h4, hr⟩
      · exfalso; omega
      · rw [rv_T_s e1 c1 g2]
        exact ⟨fun e => absurd e (by show (3 : Nat) ≠ 0; decide), fun e => absurd e (by show (3 : Nat) ≠ 1; decide), fun e => absurd e (by show (3 : Nat) ≠ 2; decide), fun _ => ⟨h14, hs⟩, fun e => absurd e (by show (3 : Nat) ≠ 4; decide), fun e => absurd e (by show (3 : Nat) ≠ 5; decide), h12, fun _ _ => h4⟩
      · rw [rv_T_r e1 c1 g2 hk]
        rcases hr with ⟨d1, d2, h11, h17⟩ | ⟨d1, d2, d3, h11, h14⟩ | ⟨d1, d2, h11⟩
        · rw [rv_Tr_1 ⟨d1, d2⟩]
          exact ⟨fun e => absurd e (by show (1 : Nat) ≠ 0; decide), fun _ => ⟨h11, h17.trans (rv_w88 B q k)⟩, fun e => absurd e (by show (1 : Nat) ≠ 2; decide), fun e => absurd e (by show (1 : Nat) ≠ 3; decide), fun e => absurd e (by show (1 : Nat) ≠ 4; decide), fun e => absurd e (by show (1 : Nat) ≠ 5; decide), h12, fun _ _ => h4⟩
        · rw [rv_Tr_2 d1 ⟨d2, d3⟩]
          exact ⟨fun e => absurd e (by show (2 : Nat) ≠ 0; decide), fun e => absurd e (by show (2 : Nat) ≠ 1; decide), fun _ => ⟨h11, h14.1, by show 0 ≤ rv_nu B q k; rw [← h14.1]; exact h14.2.1, by show rv_nu B q k ≤ 999; rw [← h14.1]; exact h14.2.2.2.2.2⟩, fun e => absurd e (by show (2 : Nat) ≠ 3; decide), fun e => absurd e (by show (2 : Nat) ≠ 4; decide), fun e => absurd e (by show (2 : Nat) ≠ 5; decide), h12, fun _ _ => h4⟩
        · rw [rv_Tr_4 d1 d2]
          exact ⟨fun e => absurd e (by show (4 : Nat) ≠ 0; decide), fun e => absurd e (by show (4 : Nat) ≠ 1; decide), fun e => absurd e (by show (4 : Nat) ≠ 2; decide), fun e => absurd e (by show (4 : Nat) ≠ 3; decide), fun _ => h11, fun e => absurd e (by show (4 : Nat) ≠ 5; decide), h12, fun _ _ => h4⟩
  · rw [rv_T_e rfl c1]
    by_cases c : n ≤ lim
    · rw [if_pos c]
      rcases h with ⟨g1, -⟩ | ⟨-, h12, h⟩
      · exfalso; omega
      · rcases h with ⟨g, h11⟩ | ⟨g, -⟩ | ⟨g, -⟩
        · have g2 := rv_sk_le B n (n - p) p hp
          exact ⟨fun _ => h11, fun e => absurd e (by show (0 : Nat) ≠ 1; decide), fun e => absurd e (by show (0 : Nat) ≠ 2; decide), fun e => absurd e (by show (0 : Nat) ≠ 3; decide), fun e => absurd e (by show (0 : Nat) ≠ 4; decide), fun e => absurd e (by show (0 : Nat) ≠ 5; decide), by show M'.1 m 12 = ((min n lim : Nat) : Int); rw [h12]; omega, fun e => absurd rfl e⟩
        · exfalso; omega
        · exfalso; omega
    · rw [if_neg c]
      rcases h with ⟨g1, g2, h11, h12⟩ | ⟨g, -⟩
      · exact ⟨fun e => absurd e (by show (5 : Nat) ≠ 0; decide), fun e => absurd e (by show (5 : Nat) ≠ 1; decide), fun e => absurd e (by show (5 : Nat) ≠ 2; decide), fun e => absurd e (by show (5 : Nat) ≠ 3; decide), fun e => absurd e (by show (5 : Nat) ≠ 4; decide), fun _ => h11, by show M'.1 m 12 = ((min n lim : Nat) : Int); rw [h12]; omega, fun _ e => absurd rfl e⟩
      · exfalso; omega
end
section
/-! ===== the class while it reads a PLAIN (laid by a program) ===== -/
def rv_up (f : Nat → Int) (j : Nat) (v : Int) : Nat → Int := fun k => if k = j then v else f k
def rv_up2 (f : Nat → Nat → Int) (t j : Nat) (v : Int) : Nat → Nat → Int := fun s => if s = t then rv_up (f s) j v else f s
def rv_upn (f : Nat → List Int) (t : Nat) (w : List Int) : Nat → List Int := fun s => if s = t then w else f s
theorem rv_up_s {f : Nat → Int} {j : Nat} {v : Int} : rv_up f j v j = v := if_pos rfl
theorem rv_up_n {f : Nat → Int} {j k : Nat} {v : Int} (h : k ≠ j) : rv_up f j v k = f k := if_neg h
/-- a bit of an int, and an int with a bit set -/
def rv_bt (z k : Int) : Int := (Int32.ofInt (Int32.ofInt z >>> (Int32.ofInt k &&& 31)).toInt &&& Int32.ofInt 1).toInt
def rv_bs (z k : Int) : Int := (Int32.ofInt z ||| Int32.ofInt (Int32.ofInt 1 <<< (Int32.ofInt k &&& 31)).toInt).toInt
theorem rv_bt_01 (z k : Int) : 0 ≤ rv_bt z k ∧ rv_bt z k ≤ 1 := sx_and_in _ 1 (by decide) (by decide)
theorem wz_c {M : mj_M} {a b j : Nat} {v : Int} (h : b ≠ a) : (mj_p0 M a j v).1 b = M.1 b := funext fun _ => hn_n (Or.inl h)
theorem wz_u {M : mj_M} {a j : Nat} {v : Int} : (mj_p0 M a j v).1 a = rv_up (M.1 a) j v := funext fun k => by
  show (if a = a ∧ k = j then v else M.1 a k) = if k = j then v else M.1 a k
  by_cases c : k = j
  · rw [if_pos ⟨rfl, c⟩, if_pos c]
  · rw [if_neg (fun q => c q.2), if_neg c]
theorem rv_tc.cg {G : mj_G} {t : Nat × Nat × Int × List Int × Nat} {tp : Nat} {M M' : mj_M} (h : rv_tc G t tp M) (e1 : M'.1 tp = M.1 tp) (e2 : M'.2.1 tp = M.2.1 tp) (e3 : M'.2.2 tp = M.2.2 tp) : rv_tc G t tp M' := by
  unfold rv_tc at *
  rw [e1, e2, e3]; exact h
/-- where things lie -/
def rv_A (G : mj_G) (M0 : mj_M) (B : Nat → Int) (n lim tp bc pl na ta ba wa oa : Nat) (tr br : Nat → Nat) : Prop :=
  G tp = (1008, 0) ∧ G bc = (38101, 940) ∧ G pl = (1004, 0) ∧ G na = (24103, 8) ∧ G ta = (25104, 8) ∧ G ba = (27104, 8) ∧ G wa = (29100, 12) ∧ G oa = (30100, 8) ∧ (∀ t, t < 8 → G (tr t) = (26100, 9)) ∧ (∀ t, t < 8 → G (br t) = (28100, 12)) ∧ (∀ t s, t < 8 → s < 8 → tr t = tr s → t = s) ∧ (∀ t s, t < 8 → s < 8 → br t = br s → t = s) ∧ M0.2.2 tp 0 = some bc ∧ M0.2.2 pl 0 = some na ∧ M0.2.2 pl 1 = some ta ∧ M0.2.2 pl 2 = some ba ∧ M0.2.2 pl 3 = some wa ∧ M0.2.2 pl 10 = some oa ∧ (∀ t, t < 8 → M0.2.2 ta t = some (tr t)) ∧ (∀ t, t < 8 → M0.2.2 ba t = some (br t)) ∧ (∀ k, rv_u8 (M0.1 bc k) = B k) ∧ rv_wl G M0 ∧ n ≤ 940 ∧ lim ≤ 940 ∧ (∀ a b, (G a).1 % 1000 = 50 → G a = G b → a = b)
/-- what else there is stays -/
def rv_fr (tp pl na wa oa : Nat) (tr br : Nat → Nat) (M0 M : mj_M) : Prop := (∀ a, a ≠ tp → a ≠ pl → a ≠ wa → a ≠ oa → (∀ t, t < 8 → a ≠ tr t) → (∀ t, t < 8 → a ≠ br t) → M.1 a = M0.1 a) ∧ (∀ a, a ≠ na → a ≠ tp → M.2.1 a = M0.2.1 a) ∧ (∀ a j, ¬ (a = tp ∧ j = 9) → M.2.2 a j = M0.2.2 a j)
def rv_S (G : mj_G) (M0 : mj_M) (n lim tp pl na wa oa : Nat) (tr br : Nat → Nat) (t : Nat × Nat × Int × List Int × Nat) (PL WA OA : Nat → Int) (TO BI : Nat → Nat → Int) (nm : Nat → List Int) (M : mj_M) : Prop :=
  (M.1 tp 1 = (n : Int) ∧ M.1 tp 10 = (lim : Int) ∧ M.1 tp 2 = 0) ∧ rv_tc G t tp M ∧ M.1 pl = PL ∧ M.1 wa = WA ∧ M.1 oa = OA ∧ (∀ s, s < 8 → M.1 (tr s) = TO s) ∧ (∀ s, s < 8 → M.1 (br s) = BI s) ∧ (∀ s, s < 8 → M.2.1 na s = rv_5 (nm s) ∧ rv_wo (nm s)) ∧ rv_fr tp pl na wa oa tr br M0 M
/-- a fault has been told -/
def rv_F (tp pl na wa oa : Nat) (tr br : Nat → Nat) (M0 : mj_M) (f : Int) (a : Nat) (M : mj_M) : Prop := M.1 tp 2 = f ∧ M.1 tp 3 = (a : Int) ∧ rv_fr tp pl na wa oa tr br M0 M ∧ f ≠ 0
section CS
variable {G : mj_G} {M0 M : mj_M} {B : Nat → Int} {n lim tp bc pl na ta ba wa oa : Nat} {tr br : Nat → Nat} {t : Nat × Nat × Int × List Int × Nat} {PL WA OA : Nat → Int} {TO BI : Nat → Nat → Int} {nm : Nat → List Int}
theorem rv_S.ppl {j : Nat} {v : Int} (hA : rv_A G M0 B n lim tp bc pl na ta ba wa oa tr br) (h : rv_S G M0 n lim tp pl na wa oa tr br t PL WA OA TO BI nm M) : rv_S G M0 n lim tp pl na wa oa tr br t (rv_up PL j v) WA OA TO BI nm (mj_p0 M pl j v) := by
  obtain ⟨gtp, gbc, gpl, gna, gta, gba, gwa, goa, gtr, gbr, itr, ibr, -⟩ := hA
  obtain ⟨⟨h1, h2, h3⟩, h4, h5, h6, h7, h8, h9, h10, f1, f2, f3⟩ := h
  exact ⟨⟨by rw [wz_c (hn_ne gtp gpl (by decide))]; exact h1, by rw [wz_c (hn_ne gtp gpl (by decide))]; exact h2, by rw [wz_c (hn_ne gtp gpl (by decide))]; exact h3⟩, h4.cg (wz_c (hn_ne gtp gpl (by decide))) rfl rfl, wz_u.trans (by rw [h5]), (wz_c (hn_ne gwa gpl (by decide))).trans h6, (wz_c (hn_ne goa gpl (by decide))).trans h7, fun s hs => (wz_c (hn_ne (gtr s hs) gpl (by decide))).trans (h8 s hs), fun s hs => (wz_c (hn_ne (gbr s hs) gpl (by decide))).trans (h9 s hs), h10, fun a a1 a2 a3 a4 a5 a6 => (wz_c a2).trans (f1 a a1 a2 a3 a4 a5 a6), f2, f3⟩
theorem rv_S.pwa {j : Nat} {v : Int} (hA : rv_A G M0 B n lim tp bc pl na ta ba wa oa tr br) (h : rv_S G M0 n lim tp pl na wa oa tr br t PL WA OA TO BI nm M) : rv_S G M0 n lim tp pl na wa oa tr br t PL (rv_up WA j v) OA TO BI nm (mj_p0 M wa j v) := by
  obtain ⟨gtp, gbc, gpl, gna, gta, gba, gwa, goa, gtr, gbr, itr, ibr, -⟩ := hA
  obtain ⟨⟨h1, h2, h3⟩, h4, h5, h6, h7, h8, h9, h10, f1, f2, f3⟩ := h
  exact ⟨⟨by rw [wz_c (hn_ne gtp gwa (by decide))]; exact h1, by rw [wz_c (hn_ne gtp gwa (by decide))]; exact h2, by rw [wz_c (hn_ne gtp gwa (by decide))]; exact h3⟩, h4.cg (wz_c (hn_ne gtp gwa (by decide))) rfl rfl, (wz_c (hn_ne gpl gwa (by decide))).trans h5, wz_u.trans (by rw [h6]), (wz_c (hn_ne goa gwa (by decide))).trans h7, fun s hs => (wz_c (hn_ne (gtr s hs) gwa (by decide))).trans (h8 s hs), fun s hs => (wz_c (hn_ne (gbr s hs) gwa (by decide))).trans (h9 s hs), h10, fun a a1 a2 a3 a4 a5 a6 => (wz_c a3).trans (f1 a a1 a2 a3 a4 a5 a6), f2, f3⟩
theorem rv_S.poa {j : Nat} {v : Int} (hA : rv_A G M0 B n lim tp bc pl na ta ba wa oa tr br) (h : rv_S G M0 n lim tp pl na wa oa tr br t PL WA OA TO BI nm M) : rv_S G M0 n lim tp pl na wa oa tr br t PL WA (rv_up OA j v) TO BI nm (mj_p0 M oa j v) := by
  obtain ⟨gtp, gbc, gpl, gna, gta, gba, gwa, goa, gtr, gbr, itr, ibr, -⟩ := hA
  obtain ⟨⟨h1, h2, h3⟩, h4, h5, h6, h7, h8, h9, h10, f1, f2, f3⟩ := h
  exact ⟨⟨by rw [wz_c (hn_ne gtp goa (by decide))]; exact h1, by rw [wz_c (hn_ne gtp goa (by decide))]; exact h2, by rw [wz_c (hn_ne gtp goa (by decide))]; exact h3⟩, h4.cg (wz_c (hn_ne gtp goa (by decide))) rfl rfl, (wz_c (hn_ne gpl goa (by decide))).trans h5, (wz_c (hn_ne gwa goa (by decide))).trans h6, wz_u.trans (by rw [h7]), fun s hs => (wz_c (hn_ne (gtr s hs) goa (by decide))).trans (h8 s hs), fun s hs => (wz_c (hn_ne (gbr s hs) goa (by decide))).trans (h9 s hs), h10, fun a a1 a2 a3 a4 a5 a6 => (wz_c a4).trans (f1 a a1 a2 a3 a4 a5 a6), f2, f3⟩
theorem rv_S.ptr {j q : Nat} {v : Int} (hA : rv_A G M0 B n lim tp bc pl na ta ba wa oa tr br) (h : rv_S G M0 n lim tp pl na wa oa tr br t PL WA OA TO BI nm M) (hq : q < 8) : rv_S G M0 n lim tp pl na wa oa tr br t PL WA OA (rv_up2 TO q j v) BI nm (mj_p0 M (tr q) j v) := by
  obtain ⟨gtp, gbc, gpl, gna, gta, gba, gwa, goa, gtr, gbr, itr, ibr, -⟩ := hA
  obtain ⟨⟨h1, h2, h3⟩, h4, h5, h6, h7, h8, h9, h10, f1, f2, f3⟩ := h
  exact ⟨⟨by rw [wz_c (hn_ne gtp (gtr q hq) (by decide))]; exact h1, by rw [wz_c (hn_ne gtp (gtr q hq) (by decide))]; exact h2, by rw [wz_c (hn_ne gtp (gtr q hq) (by decide))]; exact h3⟩, h4.cg (wz_c (hn_ne gtp (gtr q hq) (by decide))) rfl rfl, (wz_c (hn_ne gpl (gtr q hq) (by decide))).trans h5, (wz_c (hn_ne gwa (gtr q hq) (by decide))).trans h6, (wz_c (hn_ne goa (gtr q hq) (by decide))).trans h7, fun s hs => by
    by_cases c : s = q
    · rw [c, wz_u, h8 q hq]; exact (if_pos rfl).symm
    · rw [wz_c (fun e => c (itr s q hs hq e)), h8 s hs]; exact (if_neg c).symm, fun s hs => (wz_c (hn_ne (gbr s hs) (gtr q hq) (by decide))).trans (h9 s hs), h10, fun a a1 a2 a3 a4 a5 a6 => (wz_c (a5 q hq)).trans (f1 a a1 a2 a3 a4 a5 a6), f2, f3⟩
theorem rv_S.pbr {j q : Nat} {v : Int} (hA : rv_A G M0 B n lim tp bc pl na ta ba wa oa tr br) (h : rv_S G M0 n lim tp pl na wa oa tr br t PL WA OA TO BI nm M) (hq : q < 8) : rv_S G M0 n lim tp pl na wa oa tr br t PL WA OA TO (rv_up2 BI q j v) nm (mj_p0 M (br q) j v) := by
  obtain ⟨gtp, gbc, gpl, gna, gta, gba, gwa, goa, gtr, gbr, itr, ibr, -⟩ := hA
  obtain ⟨⟨h1, h2, h3⟩, h4, h5, h6, h7, h8, h9, h10, f1, f2, f3⟩ := h
  exact ⟨⟨by rw [wz_c (hn_ne gtp (gbr q hq) (by decide))]; exact h1, by rw [wz_c (hn_ne gtp (gbr q hq) (by decide))]; exact h2, by rw [wz_c (hn_ne gtp (gbr q hq) (by decide))]; exact h3⟩, h4.cg (wz_c (hn_ne gtp (gbr q hq) (by decide))) rfl rfl, (wz_c (hn_ne gpl (gbr q hq) (by decide))).trans h5, (wz_c (hn_ne gwa (gbr q hq) (by decide))).trans h6, (wz_c (hn_ne goa (gbr q hq) (by decide))).trans h7, fun s hs => (wz_c (hn_ne (gtr s hs) (gbr q hq) (by decide))).trans (h8 s hs), fun s hs => by
    by_cases c : s = q
    · rw [c, wz_u, h9 q hq]; exact (if_pos rfl).symm
    · rw [wz_c (fun e => c (ibr s q hs hq e)), h9 s hs]; exact (if_neg c).symm, h10, fun a a1 a2 a3 a4 a5 a6 => (wz_c (a6 q hq)).trans (f1 a a1 a2 a3 a4 a5 a6), f2, f3⟩
theorem rv_S.pna {q : Nat} {w : List Int} (hA : rv_A G M0 B n lim tp bc pl na ta ba wa oa tr br) (h : rv_S G M0 n lim tp pl na wa oa tr br t PL WA OA TO BI nm M) (hw : rv_wo w) : rv_S G M0 n lim tp pl na wa oa tr br t PL WA OA TO BI (rv_upn nm q w) (mj_p1 M na q (rv_5 w)) := by
  obtain ⟨gtp, gbc, gpl, gna, gta, gba, gwa, goa, gtr, gbr, itr, ibr, -⟩ := hA
  obtain ⟨h1, h4, h5, h6, h7, h8, h9, h10, f1, f2, f3⟩ := h
  refine ⟨h1, h4.cg rfl (funext fun k => wz_nl (Or.inl (hn_ne gtp gna (by decide)))) rfl, h5, h6, h7, h8, h9, fun s hs => ?_, f1, fun a a1 a2 => (funext fun k => wz_nl (Or.inl a1)).trans (f2 a a1 a2), f3⟩
  unfold rv_upn
  by_cases c : s = q
  · rw [if_pos c, c]; exact ⟨wz_sl, hw⟩
  · rw [if_neg c]; exact ⟨(wz_nl (Or.inr c)).trans (h10 s hs).1, (h10 s hs).2⟩
theorem rv_S.rr {a j b : Nat} (h : rv_S G M0 n lim tp pl na wa oa tr br t PL WA OA TO BI nm M) (e : M0.2.2 a j = some b) (hj : j ≠ 9) : M.2.2 a j = some b := (h.2.2.2.2.2.2.2.2.2.2 a j (fun q => hj q.2)).trans e
theorem rv_S.rq {a j b : Nat} {x y : Nat} {z : Nat} (h : rv_S G M0 n lim tp pl na wa oa tr br t PL WA OA TO BI nm M) (g1 : G a = (x, y)) (g2 : G tp = (z, 0)) (hx : x ≠ z) (e : M0.2.2 a j = some b) : M.2.2 a j = some b := (h.2.2.2.2.2.2.2.2.2.2 a j (fun q => hx (by rw [q.1, g2] at g1; exact (congrArg Prod.fst g1).symm))).trans e
theorem rv_S.ref {f z : Int} {a : Nat} (hA : rv_A G M0 B n lim tp bc pl na ta ba wa oa tr br) (h : rv_S G M0 n lim tp pl na wa oa tr br t PL WA OA TO BI nm M) (hz : z = (a : Int)) (hf : f ≠ 0) : rv_F tp pl na wa oa tr br M0 f a (mj_p0 (mj_p0 M tp 2 f) tp 3 z) := by
  obtain ⟨h1, h4, h5, h6, h7, h8, h9, h10, f1, f2, f3⟩ := h
  exact ⟨(hn_n (Or.inr (by decide))).trans hn_s, hn_s.trans hz, ⟨fun a a1 a2 a3 a4 a5 a6 => (wz_c a1).trans ((wz_c a1).trans (f1 a a1 a2 a3 a4 a5 a6)), f2, f3⟩, hf⟩
theorem r_adv {d q : Nat} {Q : mj_P} (hA : rv_A G M0 B n lim tp bc pl na ta ba wa oa tr br) (h : rv_S G M0 n lim tp pl na wa oa tr br t PL WA OA TO BI nm M) (hp : t.2.2.2.2 = q) (hq : q ≤ n) (hQ : ∀ M', rv_S G M0 n lim tp pl na wa oa tr br (rv_T B n lim q) PL WA OA TO BI nm M' → Q none G M') : mj_R mj_tab (d + 3) 69 [.inr (.inr (some tp))] G M Q := by
  have hA' := hA
  obtain ⟨gtp, gbc, gpl, gna, gta, gba, gwa, goa, gtr, gbr, itr, ibr, r1, r2, r3, r4, r5, r6, r7, r8, rb, rw, n1, n2, -⟩ := hA
  obtain ⟨⟨h1, h2, h3⟩, h4, h5, h6, h7, h8, h9, h10, f1, f2, f3⟩ := h
  have eb : M.1 bc = M0.1 bc := f1 bc (hn_ne gbc gtp (by decide)) (hn_ne gbc gpl (by decide)) (hn_ne gbc gwa (by decide)) (hn_ne gbc goa (by decide)) (fun t ht => hn_ne gbc (gtr t ht) (by decide)) (fun t ht => hn_ne gbc (gbr t ht) (by decide))
  have hw : rv_wl G M := fun a ha k hk => by
    obtain ⟨w, w1, w2⟩ := rw a ha k hk
    exact ⟨w, (f3 a k (fun e => by rw [e.1, gtp] at ha; cases ha)).trans w1, w2⟩
  refine r_X7_advance (d := d) (B := B) (n := n) (lim := lim) (p := q) gtp gbc n1 n2 hw hq ((f3 tp 0 (by rintro ⟨-, h⟩; revert h; decide)).trans r1) h1 h2 (by rw [← hp]; exact h4.2.2.1) (fun k => by rw [eb]; exact rb k) (fun M' hM => hQ M' ?_)
  have ho := hM.1
  have hl := hM.2.1
  have hr := hM.2.2.1
  have oc : ∀ a, a ≠ tp → M'.1 a = M.1 a := fun a ha => funext fun k => ho a k (fun e => ha e.1)
  refine ⟨⟨(ho tp 1 (by rintro ⟨-, h⟩; revert h; decide)).trans h1, (ho tp 10 (by rintro ⟨-, h⟩; revert h; decide)).trans h2, (ho tp 2 (by rintro ⟨-, h⟩; revert h; decide)).trans h3⟩, rv_adv_T hM, (oc pl (hn_ne gpl gtp (by decide))).trans h5, (oc wa (hn_ne gwa gtp (by decide))).trans h6, (oc oa (hn_ne goa gtp (by decide))).trans h7, fun s hs => (oc _ (hn_ne (gtr s hs) gtp (by decide))).trans (h8 s hs), fun s hs => (oc _ (hn_ne (gbr s hs) gtp (by decide))).trans (h9 s hs), fun s hs => ⟨(hl na s (fun e => hn_ne gna gtp (by decide) e.1)).trans (h10 s hs).1, (h10 s hs).2⟩, fun a a1 a2 a3 a4 a5 a6 => (oc a a1).trans (f1 a a1 a2 a3 a4 a5 a6), fun a a1 a2 => (funext fun k => hl a k (fun e => a2 e.1)).trans (f2 a a1 a2), fun a j g => (hr a j g).trans (f3 a j g)⟩
def rv_S0 (G : mj_G) (M0 : mj_M) (n lim tp pl na wa oa : Nat) (tr br : Nat → Nat) (q : Nat) (PL WA OA : Nat → Int) (TO BI : Nat → Nat → Int) (nm : Nat → List Int) (M : mj_M) : Prop :=
  (M.1 tp 1 = (n : Int) ∧ M.1 tp 10 = (lim : Int) ∧ M.1 tp 2 = 0) ∧ M.1 tp 11 = (q : Int) ∧ M.1 pl = PL ∧ M.1 wa = WA ∧ M.1 oa = OA ∧ (∀ s, s < 8 → M.1 (tr s) = TO s) ∧ (∀ s, s < 8 → M.1 (br s) = BI s) ∧ (∀ s, s < 8 → M.2.1 na s = rv_5 (nm s) ∧ rv_wo (nm s)) ∧ rv_fr tp pl na wa oa tr br M0 M
theorem r_adv0 {d q : Nat} {Q : mj_P} (hA : rv_A G M0 B n lim tp bc pl na ta ba wa oa tr br) (h : rv_S0 G M0 n lim tp pl na wa oa tr br q PL WA OA TO BI nm M) (hq : q ≤ n) (hQ : ∀ M', rv_S G M0 n lim tp pl na wa oa tr br (rv_T B n lim q) PL WA OA TO BI nm M' → Q none G M') : mj_R mj_tab (d + 3) 69 [.inr (.inr (some tp))] G M Q := by
  have hA' := hA
  obtain ⟨gtp, gbc, gpl, gna, gta, gba, gwa, goa, gtr, gbr, itr, ibr, r1, r2, r3, r4, r5, r6, r7, r8, rb, rw, n1, n2, -⟩ := hA
  obtain ⟨⟨h1, h2, h3⟩, h4, h5, h6, h7, h8, h9, h10, f1, f2, f3⟩ := h
  have eb : M.1 bc = M0.1 bc := f1 bc (hn_ne gbc gtp (by decide)) (hn_ne gbc gpl (by decide)) (hn_ne gbc gwa (by decide)) (hn_ne gbc goa (by decide)) (fun t ht => hn_ne gbc (gtr t ht) (by decide)) (fun t ht => hn_ne gbc (gbr t ht) (by decide))
  have hw : rv_wl G M := fun a ha k hk => by
    obtain ⟨w, w1, w2⟩ := rw a ha k hk
    exact ⟨w, (f3 a k (fun e => by rw [e.1, gtp] at ha; cases ha)).trans w1, w2⟩
  refine r_X7_advance (d := d) (B := B) (n := n) (lim := lim) (p := q) gtp gbc n1 n2 hw hq ((f3 tp 0 (by rintro ⟨-, h⟩; revert h; decide)).trans r1) h1 h2 h4 (fun k => by rw [eb]; exact rb k) (fun M' hM => hQ M' ?_)
  have ho := hM.1
  have hl := hM.2.1
  have hr := hM.2.2.1
  have oc : ∀ a, a ≠ tp → M'.1 a = M.1 a := fun a ha => funext fun k => ho a k (fun e => ha e.1)
  refine ⟨⟨(ho tp 1 (by rintro ⟨-, h⟩; revert h; decide)).trans h1, (ho tp 10 (by rintro ⟨-, h⟩; revert h; decide)).trans h2, (ho tp 2 (by rintro ⟨-, h⟩; revert h; decide)).trans h3⟩, rv_adv_T hM, (oc pl (hn_ne gpl gtp (by decide))).trans h5, (oc wa (hn_ne gwa gtp (by decide))).trans h6, (oc oa (hn_ne goa gtp (by decide))).trans h7, fun s hs => (oc _ (hn_ne (gtr s hs) gtp (by decide))).trans (h8 s hs), fun s hs => (oc _ (hn_ne (gbr s hs) gtp (by decide))).trans (h9 s hs), fun s hs => ⟨(hl na s (fun e => hn_ne gna gtp (by decide) e.1)).trans (h10 s hs).1, (h10 s hs).2⟩, fun a a1 a2 a3 a4 a5 a6 => (oc a a1).trans (f1 a a1 a2 a3 a4 a5 a6), fun a a1 a2 => (funext fun k => hl a k (fun e => a2 e.1)).trans (f2 a a1 a2), fun a j g => (hr a j g).trans (f3 a j g)⟩
end CS
end
section
/-! ===== what is read, as specs; leaf methods of the class (laid by a program) ===== -/
def rv_x (T : Nat → Nat × Nat × Int × List Int × Nat) (q : Nat) : Nat := (T q).2.2.2.2
def rv_pb (PL : Nat → Int) : Prop := 0 ≤ PL 4 ∧ PL 4 ≤ 8 ∧ 0 ≤ PL 5 ∧ PL 5 ≤ 40
def rv_AT (G : mj_G) (M0 : mj_M) (B : Nat → Int) (n lim tp bc pl na ta ba wa oa : Nat) (tr br : Nat → Nat) (T : Nat → Nat × Nat × Int × List Int × Nat) : Prop := rv_A G M0 B n lim tp bc pl na ta ba wa oa tr br ∧ T = rv_T B n lim
section SP
variable {T : Nat → Nat × Nat × Int × List Int × Nat} {lo hi : Int} {p : Nat} {Kf Kf' : Int → Nat → Prop}
/-- a number from lo to hi is read -/
def sp_num (T : Nat → Nat × Nat × Int × List Int × Nat) (lo hi : Int) (p : Nat) (Kf : Int → Nat → Prop) (Ko : Prop) : Prop := ((T p).1 = 2 → (lo ≤ (T p).2.2.1 → ((T p).2.2.1 ≤ hi → Ko) ∧ (¬ (T p).2.2.1 ≤ hi → Kf 2 (T p).2.1)) ∧ (¬ lo ≤ (T p).2.2.1 → Kf 2 (T p).2.1)) ∧ (¬ (T p).1 = 2 → Kf 1 (T p).2.1)
def sp_sgn (T : Nat → Nat × Nat × Int × List Int × Nat) (c : Int) (p : Nat) (Kf : Int → Nat → Prop) (Ko : Prop) : Prop := ((T p).1 = 3 → ((T p).2.2.1 = c → Ko) ∧ (¬ (T p).2.2.1 = c → Kf 1 (T p).2.1)) ∧ (¬ (T p).1 = 3 → Kf 1 (T p).2.1)
def sp_nam (T : Nat → Nat × Nat × Int × List Int × Nat) (p : Nat) (Kf : Int → Nat → Prop) (Ko : Prop) : Prop := ((T p).1 = 1 → (rv_nam (T p).2.2.2.1 → Ko) ∧ (¬ rv_nam (T p).2.2.2.1 → Kf 1 (T p).2.1)) ∧ (¬ (T p).1 = 1 → Kf 1 (T p).2.1)
def sp_find (nm : Nat → List Int) (k : Int) (w : List Int) (Ko : Int → Prop) : Prop := (∀ r : Nat, (r : Int) < k → nm r = w → (∀ j, j < r → nm j ≠ w) → Ko (r : Int)) ∧ ((∀ j : Nat, (j : Int) < k → nm j ≠ w) → Ko (-1))
theorem sp_num.mono {Ko Ko' : Prop} (h : sp_num T lo hi p Kf Ko) (hf : ∀ f a, Kf f a → Kf' f a) (ho : lo ≤ (T p).2.2.1 → (T p).2.2.1 ≤ hi → (T p).1 = 2 → Ko → Ko') : sp_num T lo hi p Kf' Ko' := ⟨fun a => ⟨fun b => ⟨fun c => ho b c a (((h.1 a).1 b).1 c), fun c => hf _ _ (((h.1 a).1 b).2 c)⟩, fun b => hf _ _ ((h.1 a).2 b)⟩, fun a => hf _ _ (h.2 a)⟩
theorem sp_sgn.mono {c : Int} {Ko Ko' : Prop} (h : sp_sgn T c p Kf Ko) (hf : ∀ f a, Kf f a → Kf' f a) (ho : (T p).1 = 3 → Ko → Ko') : sp_sgn T c p Kf' Ko' := ⟨fun a => ⟨fun b => ho a ((h.1 a).1 b), fun b => hf _ _ ((h.1 a).2 b)⟩, fun a => hf _ _ (h.2 a)⟩
theorem sp_nam.mono {Ko Ko' : Prop} (h : sp_nam T p Kf Ko) (hf : ∀ f a, Kf f a → Kf' f a) (ho : (T p).1 = 1 → rv_nam (T p).2.2.2.1 → Ko → Ko') : sp_nam T p Kf' Ko' := ⟨fun a => ⟨fun b => ho a b ((h.1 a).1 b), fun b => hf _ _ ((h.1 a).2 b)⟩, fun a => hf _ _ (h.2 a)⟩
theorem sp_find.mono {nm : Nat → List Int} {k : Int} {w : List Int} {Ko Ko' : Int → Prop} (h : sp_find nm k w Ko) (h1 : ∀ r : Nat, (r : Int) < k → nm r = w → (∀ j, j < r → nm j ≠ w) → Ko (r : Int) → Ko' (r : Int)) (h0 : (∀ j : Nat, (j : Int) < k → nm j ≠ w) → Ko (-1) → Ko' (-1)) : sp_find nm k w Ko' := ⟨fun r a b c => h1 r a b c (h.1 r a b c), fun a => h0 a (h.2 a)⟩
end SP
theorem rv_x_w {G : mj_G} {M0 : mj_M} {B : Nat → Int} {n lim tp bc pl na ta ba wa oa : Nat} {tr br : Nat → Nat} {T : Nat → Nat × Nat × Int × List Int × Nat} {q : Nat} (hA : rv_AT G M0 B n lim tp bc pl na ta ba wa oa tr br T) (h : q ≤ n) : rv_tw n q (T q) := by rw [hA.2]; exact rv_T_w h
theorem rv_x_le {G : mj_G} {M0 : mj_M} {B : Nat → Int} {n lim tp bc pl na ta ba wa oa : Nat} {tr br : Nat → Nat} {T : Nat → Nat × Nat × Int × List Int × Nat} {q : Nat} (hA : rv_AT G M0 B n lim tp bc pl na ta ba wa oa tr br T) (h : q ≤ n) : rv_x T q ≤ n := (rv_x_w hA h).2.2.2.2.2
theorem rv_x_ge {G : mj_G} {M0 : mj_M} {B : Nat → Int} {n lim tp bc pl na ta ba wa oa : Nat} {tr br : Nat → Nat} {T : Nat → Nat × Nat × Int × List Int × Nat} {q : Nat} (hA : rv_AT G M0 B n lim tp bc pl na ta ba wa oa tr br T) (h : q ≤ n) : q ≤ rv_x T q := (rv_x_w hA h).2.1
theorem rv_x_wo {G : mj_G} {M0 : mj_M} {B : Nat → Int} {n lim tp bc pl na ta ba wa oa : Nat} {tr br : Nat → Nat} {T : Nat → Nat × Nat × Int × List Int × Nat} {q : Nat} (hA : rv_AT G M0 B n lim tp bc pl na ta ba wa oa tr br T) (h : q ≤ n) (h1 : (T q).1 = 1) : rv_wo (T q).2.2.2.1 := (rv_x_w hA h).2.2.2.2.1 h1
theorem r_adv2 {G : mj_G} {M0 M : mj_M} {B : Nat → Int} {n lim tp bc pl na ta ba wa oa : Nat} {tr br : Nat → Nat} {T : Nat → Nat × Nat × Int × List Int × Nat} {PL WA OA : Nat → Int} {TO BI : Nat → Nat → Int} {nm : Nat → List Int} {Q : mj_P} {d q : Nat} (hA : rv_AT G M0 B n lim tp bc pl na ta ba wa oa tr br T) (h : rv_S G M0 n lim tp pl na wa oa tr br (T q) PL WA OA TO BI nm M) (hq : q ≤ n) (hQ : ∀ M', rv_S G M0 n lim tp pl na wa oa tr br (T (rv_x T q)) PL WA OA TO BI nm M' → Q none G M') : mj_R mj_tab (d + 3) 69 [.inr (.inr (some tp))] G M Q := r_adv hA.1 h rfl (rv_x_le hA hq) (fun M' h' => hQ M' (by rw [hA.2]; rw [hA.2] at h'; exact h'))
theorem r_X7_refuse {G : mj_G} {M0 M : mj_M} {B : Nat → Int} {n lim tp bc pl na ta ba wa oa : Nat} {tr br : Nat → Nat} {T : Nat → Nat × Nat × Int × List Int × Nat} {PL WA OA : Nat → Int} {TO BI : Nat → Nat → Int} {nm : Nat → List Int} {Q : mj_P} {d : Nat} {f : Int} {t : Nat × Nat × Int × List Int × Nat} (hA : rv_AT G M0 B n lim tp bc pl na ta ba wa oa tr br T) (hS : rv_S G M0 n lim tp pl na wa oa tr br t PL WA OA TO BI nm M) (hf0 : f ≠ 0) (hQ : ∀ M', rv_F tp pl na wa oa tr br M0 f t.2.1 M' → Q (some (.inl 0)) G M') : mj_R mj_tab (d + 1) 83 [.inr (.inr (some tp)), .inl f] G M Q := by
  have gtp := hA.1.1
  refine ⟨Nat.le_of_ble_eq_true rfl, ?_⟩
  show wz d mt_X7_refuse.2.2.2.2.1 Q mt_X7_refuse.2.2.2.2.1 [some (.inr (.inr (some tp))), some (.inl f)] [] G M _ _
  refine w_aln rfl ?_
  refine w_iln rfl ?_
  refine w_pi gtp rfl (by decide) rfl (fun q => by cases q) ?_
  refine w_aln rfl ?_
  refine w_aln rfl ?_
  refine w_gi gtp rfl (by decide) rfl rfl ?_
  refine w_pi gtp rfl (by decide) rfl (fun q => by cases q) ?_
  refine w_ic ?_
  exact w_iret (fun _ => Or.inl rfl) (hQ _ (hS.ref hA.1 ((hn_n (Or.inr (by decide))).trans hS.2.1.2.1) hf0))
theorem r_X7_numberHere {G : mj_G} {M0 M : mj_M} {B : Nat → Int} {n lim tp bc pl na ta ba wa oa : Nat} {tr br : Nat → Nat} {T : Nat → Nat × Nat × Int × List Int × Nat} {PL WA OA : Nat → Int} {TO BI : Nat → Nat → Int} {nm : Nat → List Int} {Q : mj_P} {d q : Nat} {lo hi : Int} (hA : rv_AT G M0 B n lim tp bc pl na ta ba wa oa tr br T) (hS : rv_S G M0 n lim tp pl na wa oa tr br (T q) PL WA OA TO BI nm M) (h : sp_num T lo hi q (fun f a => ∀ M', rv_F tp pl na wa oa tr br M0 f a M' → Q (some (.inl (-1))) G M') (∀ M', rv_S G M0 n lim tp pl na wa oa tr br (T q) PL WA OA TO BI nm M' → Q (some (.inl (T q).2.2.1)) G M')) : mj_R mj_tab (d + 2) 79 [.inr (.inr (some tp)), .inl lo, .inl hi] G M Q := by
  obtain ⟨⟨gtp, gbc, gpl, gna, gta, gba, gwa, goa, gtr, gbr, itr, ibr, r1, r2, r3, r4, r5, r6, r7, r8, rb, rw0, n1, n2, hIw⟩, hT⟩ := id hA
  obtain ⟨k4, k5, k11, k6, k7, k8, k9⟩ := id hS.2.1
  refine ⟨Nat.le_of_ble_eq_true rfl, ?_⟩
  show wz (d + 1) mt_X7_numberHere.2.2.2.2.1 Q mt_X7_numberHere.2.2.2.2.1 [some (.inr (.inr (some tp))), some (.inl lo), some (.inl hi)] [] G M _ _
  refine w_aln rfl ?_
  refine w_gi gtp rfl (by decide) rfl (rfl) ?_
  refine w_ic ?_
  refine w_cmeq (fun c1 => ?_) (fun c1 => ?_)
  · skip
    refine w_aln rfl ?_
    refine w_gi gtp rfl (by decide) rfl (rfl) ?_
    refine w_iln rfl ?_
    refine w_cmlt (fun c2 => ?_) (fun c2 => ?_)
    · skip
      refine w_aln rfl ?_
      refine w_ic ?_
      have h4 := h.1 (by omega)
      clear h
      have h5 := h4.2 (by omega)
      clear h4
      refine w_cv (st := []) rfl gtp rfl (Nat.le_of_ble_eq_true rfl) (fun kk h => h) (r_X7_refuse (d := d) hA hS (by decide) (fun MF3 F3 => ?_))
      refine w_pop ?_
      refine w_ic ?_
      exact w_iret (fun q => by cases q) (h5 _ F3)
    · skip
      refine w_aln rfl ?_
      refine w_gi gtp rfl (by decide) rfl (rfl) ?_
      refine w_iln rfl ?_
      refine w_cmle (fun c6 => ?_) (fun c6 => ?_)
      · skip
        refine w_aln rfl ?_
        refine w_gi gtp rfl (by decide) rfl (rfl) ?_
        have h7 := h.1 (by omega)
        clear h
        have h8 := h7.1 (by omega)
        clear h7
        have h9 := h8.1 (by omega)
        clear h8
        rw [(k6 (by omega)).1]; exact w_iret (fun q => by cases q) (h9 _ hS)
      · skip
        refine w_aln rfl ?_
        refine w_ic ?_
        have h11 := h.1 (by omega)
        clear h
        have h12 := h11.1 (by omega)
        clear h11
        have h13 := h12.2 (by omega)
        clear h12
        refine w_cv (st := []) rfl gtp rfl (Nat.le_of_ble_eq_true rfl) (fun kk h => h) (r_X7_refuse (d := d) hA hS (by decide) (fun MF10 F10 => ?_))
        refine w_pop ?_
        refine w_ic ?_
        exact w_iret (fun q => by cases q) (h13 _ F10)
  · skip
    refine w_aln rfl ?_
    refine w_ic ?_
    have h15 := h.2 (by omega)
    clear h
    refine w_cv (st := []) rfl gtp rfl (Nat.le_of_ble_eq_true rfl) (fun kk h => h) (r_X7_refuse (d := d) hA hS (by decide) (fun MF14 F14 => ?_))
    refine w_pop ?_
    refine w_ic ?_
    exact w_iret (fun q => by cases q) (h15 _ F14)
theorem r_X7_nextNumber {G : mj_G} {M0 M : mj_M} {B : Nat → Int} {n lim tp bc pl na ta ba wa oa : Nat} {tr br : Nat → Nat} {T : Nat → Nat × Nat × Int × List Int × Nat} {PL WA OA : Nat → Int} {TO BI : Nat → Nat → Int} {nm : Nat → List Int} {Q : mj_P} {d q : Nat} {lo hi : Int} (hA : rv_AT G M0 B n lim tp bc pl na ta ba wa oa tr br T) (hS : rv_S G M0 n lim tp pl na wa oa tr br (T q) PL WA OA TO BI nm M) (hqn : q ≤ n) (h : sp_num T lo hi (rv_x T q) (fun f a => ∀ M', rv_F tp pl na wa oa tr br M0 f a M' → Q (some (.inl (-1))) G M') (∀ M', rv_S G M0 n lim tp pl na wa oa tr br (T (rv_x T q)) PL WA OA TO BI nm M' → Q (some (.inl (T (rv_x T q)).2.2.1)) G M')) : mj_R mj_tab (d + 4) 77 [.inr (.inr (some tp)), .inl lo, .inl hi] G M Q := by
  have gtp := hA.1.1
  refine ⟨Nat.le_of_ble_eq_true rfl, ?_⟩
  show wz (d + 3) mt_X7_nextNumber.2.2.2.2.1 Q mt_X7_nextNumber.2.2.2.2.1 [some (.inr (.inr (some tp))), some (.inl lo), some (.inl hi)] [] G M _ _
  refine w_aln rfl ?_
  refine w_cv (st := []) rfl gtp rfl (Nat.le_of_ble_eq_true rfl) (fun kk h => h) (r_adv2 (d := d) hA hS hqn (fun M1 s1 => ?_))
  refine w_aln rfl ?_
  refine w_iln rfl ?_
  refine w_iln rfl ?_
  refine w_cv (st := []) rfl gtp rfl (Nat.le_of_ble_eq_true rfl) (fun kk h => h) (r_X7_numberHere (d := d + 1) hA s1 (h.mono (fun f a hf M' F => w_iret (fun q => by cases q) (hf M' F)) (fun _ _ _ hv M' s => w_iret (fun q => by cases q) (hv M' s))))
theorem r_X7_nextSign {G : mj_G} {M0 M : mj_M} {B : Nat → Int} {n lim tp bc pl na ta ba wa oa : Nat} {tr br : Nat → Nat} {T : Nat → Nat × Nat × Int × List Int × Nat} {PL WA OA : Nat → Int} {TO BI : Nat → Nat → Int} {nm : Nat → List Int} {Q : mj_P} {d q : Nat} {c : Int} (hA : rv_AT G M0 B n lim tp bc pl na ta ba wa oa tr br T) (hS : rv_S G M0 n lim tp pl na wa oa tr br (T q) PL WA OA TO BI nm M) (hqn : q ≤ n) (h : sp_sgn T c (rv_x T q) (fun f a => ∀ M', rv_F tp pl na wa oa tr br M0 f a M' → Q (some (.inl 0)) G M') (∀ M', rv_S G M0 n lim tp pl na wa oa tr br (T (rv_x T q)) PL WA OA TO BI nm M' → Q (some (.inl 1)) G M')) : mj_R mj_tab (d + 4) 78 [.inr (.inr (some tp)), .inl c] G M Q := by
  have gtp := hA.1.1
  refine ⟨Nat.le_of_ble_eq_true rfl, ?_⟩
  show wz (d + 3) mt_X7_nextSign.2.2.2.2.1 Q mt_X7_nextSign.2.2.2.2.1 [some (.inr (.inr (some tp))), some (.inl c)] [] G M _ _
  refine w_aln rfl ?_
  refine w_cv (st := []) rfl gtp rfl (Nat.le_of_ble_eq_true rfl) (fun kk h => h) (r_adv2 (d := d) hA hS hqn (fun M1 s1 => ?_))
  obtain ⟨k4, k5, k11, k6, k7, k8, k9⟩ := id s1.2.1
  refine w_aln rfl ?_
  refine w_iln rfl ?_
  refine w_cv (st := []) rfl gtp rfl (Nat.le_of_ble_eq_true rfl) (fun kk h => h) ⟨Nat.le_of_ble_eq_true rfl, ?_⟩
  show wz (d + 2) mt_X7_isSign.2.2.2.2.1 _ mt_X7_isSign.2.2.2.2.1 [some (.inr (.inr (some tp))), some (.inl c)] [] _ _ _ _
  refine w_aln rfl ?_
  refine w_gi gtp rfl (by decide) rfl (rfl) ?_
  refine w_ic ?_
  refine w_cmne (fun c1 => ?_) (fun c1 => ?_)
  · skip
    refine w_ic ?_
    refine w_iret (fun _ => Or.inl rfl) ?_
    refine w_ifne (fun c2 => ?_) (fun c2 => ?_)
    · exfalso; omega
    · skip
      refine w_aln rfl ?_
      refine w_ic ?_
      have h4 := h.2 (by omega)
      clear h
      refine w_cv (st := []) rfl gtp rfl (Nat.le_of_ble_eq_true rfl) (fun kk h => h) (r_X7_refuse (d := d + 2) hA s1 (by decide) (fun MF3 F3 => ?_))
      refine w_ifeq (fun c5 => ?_) (fun c5 => ?_)
      · skip
        refine w_ic ?_
        exact w_iret (fun _ => Or.inl rfl) (h4 _ F3)
      · exfalso; omega
  · skip
    refine w_aln rfl ?_
    refine w_gi gtp rfl (by decide) rfl (rfl) ?_
    refine w_iln rfl ?_
    refine w_cmne (fun c6 => ?_) (fun c6 => ?_)
    · skip
      refine w_ic ?_
      refine w_iret (fun _ => Or.inl rfl) ?_
      refine w_ifne (fun c7 => ?_) (fun c7 => ?_)
      · exfalso; omega
      · skip
        refine w_aln rfl ?_
        refine w_ic ?_
        have h9 := h.1 (by omega)
        clear h
        have h10 := h9.2 (by omega)
        clear h9
        refine w_cv (st := []) rfl gtp rfl (Nat.le_of_ble_eq_true rfl) (fun kk h => h) (r_X7_refuse (d := d + 2) hA s1 (by decide) (fun MF8 F8 => ?_))
        refine w_ifeq (fun c11 => ?_) (fun c11 => ?_)
        · skip
          refine w_ic ?_
          exact w_iret (fun _ => Or.inl rfl) (h10 _ F8)
        · exfalso; omega
    · skip
      refine w_ic ?_
      refine w_goto ?_
      refine w_iret (fun _ => Or.inr rfl) ?_
      refine w_ifne (fun c12 => ?_) (fun c12 => ?_)
      · skip
        refine w_ic ?_
        refine w_goto ?_
        have h13 := h.1 (by omega)
        clear h
        have h14 := h13.1 (by omega)
        clear h13
        exact w_iret (fun _ => Or.inr rfl) (h14 _ s1)
      · exfalso; omega
theorem r_X7_nameHere {G : mj_G} {M0 M : mj_M} {B : Nat → Int} {n lim tp bc pl na ta ba wa oa : Nat} {tr br : Nat → Nat} {T : Nat → Nat × Nat × Int × List Int × Nat} {PL WA OA : Nat → Int} {TO BI : Nat → Nat → Int} {nm : Nat → List Int} {Q : mj_P} {d q : Nat} (hA : rv_AT G M0 B n lim tp bc pl na ta ba wa oa tr br T) (hS : rv_S G M0 n lim tp pl na wa oa tr br (T q) PL WA OA TO BI nm M) (hqn : q ≤ n) (h : sp_nam T q (fun f a => ∀ M', rv_F tp pl na wa oa tr br M0 f a M' → Q (some (.inl 0)) G M') (Q (some (.inl 1)) G M)) : mj_R mj_tab (d + 2) 76 [.inr (.inr (some tp))] G M Q := by
  obtain ⟨⟨gtp, gbc, gpl, gna, gta, gba, gwa, goa, gtr, gbr, itr, ibr, r1, r2, r3, r4, r5, r6, r7, r8, rb, rw0, n1, n2, hIw⟩, hT⟩ := id hA
  obtain ⟨k4, k5, k11, k6, k7, k8, k9⟩ := id hS.2.1
  have hk : ((T q).1 = 1 ∧ rv_nam (T q).2.2.2.1 ∧ M.2.2 tp 9 = none) ∨ ((T q).1 = 1 ∧ ¬ rv_nam (T q).2.2.2.1 ∧ M.2.2 tp 9 ≠ none) ∨ (T q).1 ≠ 1 := by
    by_cases c : (T q).1 = 1
    · have hw := rv_nam5 (rv_x_wo hA hqn c)
      rcases (k8 c).2 with ⟨j, w, j1, j2, j3, j4⟩ | ⟨j1, j2⟩
      · exact Or.inr (Or.inl ⟨c, fun g => hw.mp g j j1 j2, by rw [j4]; exact fun e => by cases e⟩)
      · exact Or.inl ⟨c, hw.mpr j1, j2⟩
    · exact Or.inr (Or.inr c)
  refine ⟨Nat.le_of_ble_eq_true rfl, ?_⟩
  show wz (d + 1) mt_X7_nameHere.2.2.2.2.1 Q mt_X7_nameHere.2.2.2.2.1 [some (.inr (.inr (some tp)))] [] G M _ _
  have bad : ∀ cb sb, ¬ ((T q).1 = 1 ∧ rv_nam (T q).2.2.2.1) → wz (d + 1) mt_X7_nameHere.2.2.2.2.1 Q (mt_X7_nameHere.2.2.2.2.1.drop 7) [some (.inr (.inr (some tp)))] [] G M cb sb := by
    intro cb sb hc
    refine w_aln rfl ?_
    refine w_ic ?_
    refine w_cv (st := []) rfl gtp rfl (Nat.le_of_ble_eq_true rfl) (fun kk h => h) (r_X7_refuse (d := d) hA hS (by decide) (fun M' F => ?_))
    refine w_ifeq (fun c => ?_) (fun c => absurd rfl c)
    refine w_ic ?_
    refine w_iret (fun _ => Or.inl rfl) ?_
    by_cases c1 : (T q).1 = 1
    · exact (h.1 c1).2 (fun g => hc ⟨c1, g⟩) M' F
    · exact h.2 c1 M' F
  refine w_aln rfl ?_
  refine w_gi gtp rfl (by decide) rfl rfl ?_
  refine w_ic ?_
  refine w_cmne (fun c => bad _ _ (by rintro ⟨e, -⟩; omega)) (fun c => ?_)
  refine w_aln rfl ?_
  refine w_gro gtp rfl (by decide) rfl rfl ?_
  refine w_ifnull (fun c2 => ?_) (fun c2 => bad _ _ ?_)
  · refine w_ic ?_
    refine w_goto ?_
    refine w_iret (fun _ => Or.inr rfl) ?_
    rcases hk with ⟨a, b, -⟩ | ⟨a, b, e⟩ | a
    · exact (h.1 a).1 b
    · exact absurd c2 e
    · exfalso; omega
  · rintro ⟨a1, a2⟩
    rcases hk with ⟨a, b, e⟩ | ⟨a, b, e⟩ | a
    · exact c2 e
    · exact b a2
    · exact a a1
theorem r_find3 {G : mj_G} {M0 M : mj_M} {B : Nat → Int} {n lim tp bc pl na ta ba wa oa : Nat} {tr br : Nat → Nat} {T : Nat → Nat × Nat × Int × List Int × Nat} {PL WA OA : Nat → Int} {TO BI : Nat → Nat → Int} {nm : Nat → List Int} {Q : mj_P} {d q : Nat} {w : List Int} (hA : rv_AT G M0 B n lim tp bc pl na ta ba wa oa tr br T) (hS : rv_S G M0 n lim tp pl na wa oa tr br (T q) PL WA OA TO BI nm M) (hb : rv_pb PL) (hw : rv_wo w) (h : sp_find nm (PL 4) w (fun r => Q (some (.inl r)) G M)) : ∀ f i : Nat, PL 4 ≤ ((i + f : Nat) : Int) → (i : Int) ≤ PL 4 → (∀ j, j < i → nm j ≠ w) → ∀ cb sb, wz d mt_X3_find.2.2.2.2.1 Q (mt_X3_find.2.2.2.2.1.drop 2) [some (.inr (.inr (some pl))), some (.inr (.inl (rv_5 w))), none, some (.inl (i : Int))] [] G M cb sb := by
  obtain ⟨⟨gtp, gbc, gpl, gna, gta, gba, gwa, goa, gtr, gbr, itr, ibr, r1, r2, r3, r4, r5, r6, r7, r8, rb, rw0, n1, n2, hIw⟩, hT⟩ := id hA
  obtain ⟨b1, b2, b3, b4⟩ := hb
  have sh : ∀ (f i : Nat), PL 4 ≤ ((i + f : Nat) : Int) → (i : Int) ≤ PL 4 → (∀ j, j < i → nm j ≠ w) → (∀ cb sb, (i : Int) < PL 4 → nm i ≠ w → wz d mt_X3_find.2.2.2.2.1 Q (mt_X3_find.2.2.2.2.1.drop 2) [some (.inr (.inr (some pl))), some (.inr (.inl (rv_5 w))), none, some (.inl ((i : Int) + 1))] [] G M cb sb) → ∀ cb sb, wz d mt_X3_find.2.2.2.2.1 Q (mt_X3_find.2.2.2.2.1.drop 2) [some (.inr (.inr (some pl))), some (.inr (.inl (rv_5 w))), none, some (.inl (i : Int))] [] G M cb sb := by
    intro f i g1 g2 g3 go cb sb
    refine w_iln rfl ?_
    refine w_aln rfl ?_
    refine w_gi gpl rfl (by decide) rfl (congrFun hS.2.2.1 4) ?_
    refine w_cmge (fun c => ?_) (fun c => ?_)
    · refine w_ic ?_
      exact w_iret (fun q => by cases q) (h.2 (fun j hj => g3 j (by omega)))
    · refine w_aln rfl ?_
      refine w_gr gpl rfl (by decide) rfl (hS.rr r2 (by decide)) ?_
      refine w_iln rfl ?_
      refine w_lald gna rfl (by omega) (by show (i : Int) < ((8 : Nat) : Int); omega) (hS.2.2.2.2.2.2.2.1 i (by omega)).1 ?_
      refine w_lln rfl ?_
      refine w_lcmp ?_
      intro z hz ez
      have qz := rv_cmp ez
      refine w_ifne (fun c2 => ?_) (fun c2 => ?_)
      · refine w_ii rfl ⟨by omega, by omega⟩ ?_
        refine w_goto ?_
        exact go _ _ c (fun e => qz.2 c2 (by rw [e]))
      · refine w_iln rfl ?_
        exact w_iret (fun q => by cases q) (h.1 i c (rv_5i (hS.2.2.2.2.2.2.2.1 i (by omega)).2 hw (qz.1 c2)) g3)
  intro f
  induction f with
  | zero => intro i g1 g2 g3 cb sb; exact sh 0 i g1 g2 g3 (fun cb sb c _ => by exfalso; omega) cb sb
  | succ f ih =>
    intro i g1 g2 g3 cb sb
    exact sh (f + 1) i g1 g2 g3 (fun cb sb c c2 => ih (i + 1) (by omega) (by omega) (fun j hj => by
      rcases Nat.lt_or_ge j i with q | q
      · exact g3 j q
      · rw [show j = i by omega]; exact c2) cb sb) cb sb
theorem r_X3_find {G : mj_G} {M0 M : mj_M} {B : Nat → Int} {n lim tp bc pl na ta ba wa oa : Nat} {tr br : Nat → Nat} {T : Nat → Nat × Nat × Int × List Int × Nat} {PL WA OA : Nat → Int} {TO BI : Nat → Nat → Int} {nm : Nat → List Int} {Q : mj_P} {d q : Nat} {w : List Int} (hA : rv_AT G M0 B n lim tp bc pl na ta ba wa oa tr br T) (hS : rv_S G M0 n lim tp pl na wa oa tr br (T q) PL WA OA TO BI nm M) (hb : rv_pb PL) (hw : rv_wo w) (h : sp_find nm (PL 4) w (fun r => Q (some (.inl r)) G M)) : mj_R mj_tab (d + 1) 33 [.inr (.inr (some pl)), .inr (.inl (rv_5 w))] G M Q := by
  refine ⟨Nat.le_of_ble_eq_true rfl, ?_⟩
  show wz d mt_X3_find.2.2.2.2.1 Q mt_X3_find.2.2.2.2.1 [some (.inr (.inr (some pl))), some (.inr (.inl (rv_5 w))), none, none] [] G M _ _
  refine w_ic ?_
  refine w_isn ?_
  exact r_find3 hA hS hb hw h 8 0 (by have := hb.2.1; omega) hb.1 (fun j hj => absurd hj (Nat.not_lt_zero j)) _ _
end
