/-! ===== the reference's next: a run of letters and digits (laid by a program) ===== -/
/-- whether all of the first k bytes are of the first one's sort -/
def rv_al (B : Nat → Int) (q k : Nat) (sm al : Int) : Prop := (al = 0 ∨ al = 1) ∧ (sm = 0 ∨ sm = 1) ∧ (sm = 1 → al = 1 → rv_nl B q k = k) ∧ (sm = 1 → al = 0 → rv_nl B q k < k) ∧ (sm = 0 → al = 1 → rv_nl B q k = 0) ∧ (sm = 0 → al = 0 → 0 < rv_nl B q k)
theorem r_nxt2 {d m br n q : Nat} {v1 : Option mj_V} {sm : Int} {B : Nat → Int} {G : mj_G} {Q : mj_P} (hm : G m = (1012, 0)) (hb : G br = (50101, 940)) (hn : n ≤ 940) : ∀ (f k : Nat) (al : Int) (M : mj_M) (cb sb : Nat), n ≤ q + k + f → q + k ≤ n → M.2.2 m 1 = some br → M.1 m 3 = (n : Int) → M.1 m 4 = ((q + k : Nat) : Int) → M.1 m 13 = (k : Int) → rv_al B q k sm al → (k ≤ 8 → M.2.1 m 17 = rv_w8 B q k) → (rv_nl B q k = 0 → k ≤ 3 → rv_nk B q k (M.1 m 14)) → (∀ k, rv_u8 (M.1 br k) = B k) →
    (∀ (k' : Nat) (al : Int) (M' : mj_M), rv_rn B n f (q + k) = q + k' → q + k' ≤ n → M'.1 m 4 = ((q + k' : Nat) : Int) → M'.1 m 13 = (k' : Int) → rv_al B q k' sm al → (k' ≤ 8 → M'.2.1 m 17 = rv_w8 B q k') → (rv_nl B q k' = 0 → k' ≤ 3 → rv_nk B q k' (M'.1 m 14)) → rv_o m [4, 13, 14] M M' → M'.2.2 = M.2.2 → (∀ a j, ¬ (a = m ∧ j = 17) → M'.2.1 a j = M.2.1 a j) → wz (d + 1) mt_X12_next.2.2.2.2.1 Q (mt_X12_next.2.2.2.2.1.drop 157) [some (.inr (.inr (some m))), v1, some (.inl sm), some (.inl al)] [] G M' cb sb) → wz (d + 1) mt_X12_next.2.2.2.2.1 Q (mt_X12_next.2.2.2.2.1.drop 96) [some (.inr (.inr (some m))), v1, some (.inl sm), some (.inl al)] [] G M cb sb := by
  have ne : br ≠ m := hn_ne hb hm (by decide)
  intro f
  induction f with
  | zero =>
    intro k al M cb sb hf hq f1 fs fh fk ha hw8 hu fb hK
    refine w_aln rfl ?_
    refine w_cv (st := []) rfl hm rfl (Nat.le_of_ble_eq_true rfl) (fun kk h => h) (r_X12_peek (d := d) (p := q + k) (B := B) hm hb hn f1 (fs) (fh) fb (fun c => by exfalso; omega) (fun c => ?_))
    · skip
      refine w_cs (st := []) rfl (Nat.le_of_ble_eq_true rfl) (fun kk h => h) (r_X12_isSmall (d := d) (fun a b => by exfalso; omega) (fun a => ?_))
      · skip
        refine w_ifne (fun c1 => ?_) (fun c1 => ?_)
        · exfalso; omega
        · skip
          refine w_aln rfl ?_
          refine w_cv (st := []) rfl hm rfl (Nat.le_of_ble_eq_true rfl) (fun kk h => h) (r_X12_peek (d := d) (p := q + k) (B := B) hm hb hn f1 (fs) (fh) fb (fun c => by exfalso; omega) (fun c => ?_))
          · skip
            refine w_cs (st := []) rfl (Nat.le_of_ble_eq_true rfl) (fun kk h => h) (r_X12_isDigit (d := d) (fun a b => by exfalso; omega) (fun a => ?_))
            · skip
              refine w_ifeq (fun c2 => ?_) (fun c2 => ?_)
              · skip
                exact hK k al M rfl hq fh fk ha hw8 hu rv_o.rf rfl (fun _ _ _ => rfl)
              · exfalso; omega
  | succ f ih =>
    intro k al M cb sb hf hq f1 fs fh fk ha hw8 hu fb hK
    have hl := rv_nl_le B q k
    have ub := rv_u8_in (M.1 br (q + k))
    rw [fb (q + k)] at ub
    obtain ⟨a1, a2, a3, a4, a5, a6⟩ := id ha
    refine w_aln rfl ?_
    refine w_cv (st := []) rfl hm rfl (Nat.le_of_ble_eq_true rfl) (fun kk h => h) (r_X12_peek (d := d) (p := q + k) (B := B) hm hb hn f1 (fs) (fh) fb (fun ci => ?_) (fun ci => ?_))
    · skip
      refine w_cs (st := []) rfl (Nat.le_of_ble_eq_true rfl) (fun kk h => h) (r_X12_isSmall (d := d) (fun l1 l2 => ?_) (fun l0 => ?_))
      · skip
        refine w_ifne (fun c1 => ?_) (fun c1 => ?_)
        · skip
          refine w_iln rfl ?_
          refine w_ifeq (fun c2 => ?_) (fun c2 => ?_)
          · skip
            refine w_ic ?_
            refine w_isn ?_
            refine w_aln rfl ?_
            refine w_gi hm rfl (by decide) rfl (fk) ?_
            refine w_bp ?_
            refine w_cmge (fun c3 => ?_) (fun c3 => ?_)
            · skip
              refine w_aln rfl ?_
              refine w_gi hm rfl (by decide) rfl (fk) ?_
              refine w_ic ?_
              refine w_cmge (fun c4 => ?_) (fun c4 => ?_)
              · skip
                refine w_aln rfl ?_
                refine w_dupr ?_
                refine w_gi hm rfl (by decide) rfl (fk) ?_
                refine w_ic ?_
                refine w_add ⟨by show (-2147483648 : Int) ≤ (k : Int) + 1; omega, by show (k : Int) + 1 < (2147483648 : Int); omega⟩ ?_
                refine w_pi hm rfl (by decide) rfl (fun q => by cases q) ?_
                refine w_aln rfl ?_
                refine w_dupr ?_
                refine w_gi hm rfl (by decide) rfl ((hn_n (Or.inr (by decide))).trans (fh)) ?_
                refine w_ic ?_
                refine w_add ⟨by show (-2147483648 : Int) ≤ ((q + k : Nat) : Int) + 1; omega, by show ((q + k : Nat) : Int) + 1 < (2147483648 : Int); omega⟩ ?_
                refine w_pi hm rfl (by decide) rfl (fun q => by cases q) ?_
                refine w_goto ?_
                have en := rv_nl_s (q := q) (k := k) (rv_le_t l1 l2)
                have er : rv_rn B n (f + 1) (q + k) = rv_rn B n f (q + (k + 1)) := if_pos ⟨by omega, rv_an_l l1 l2⟩
                exact ih (k + 1) 0 _ cb sb (by omega) (by omega) f1 ((hn_n (Or.inr (by decide))).trans ((hn_n (Or.inr (by decide))).trans (fs))) ((hn_s).trans (by omega)) (((hn_n (Or.inr (by decide))).trans (hn_s)).trans (by omega)) ⟨by omega, a2, fun h h2 => by omega, fun h h2 => by omega, fun h h2 => by omega, fun h h2 => by omega⟩ (fun g => by exfalso; omega) (fun g g3 => by exfalso; omega) (fun j => Eq.trans (congrArg rv_u8 ((hn_n (Or.inl ne)).trans ((hn_n (Or.inl ne))))) (fb j)) (fun k' al M' g0 g1 g2 g3 g4 g5 g6 g7 g8 g9 => hK k' al M' (er.trans g0) g1 g2 g3 g4 g5 g6 (rv_o.tr (rv_o.tr (rv_o.tr rv_o.rf (rv_o.st (a := m) (j := 13) (by decide))) (rv_o.st (a := m) (j := 4) (by decide))) g7) g8 g9)
              · skip
                refine w_aln rfl ?_
                refine w_bp ?_
                refine w_aln rfl ?_
                refine w_gi hm rfl (by decide) rfl ((rfl : _ = M.1 m 14)) ?_
                refine w_mulw ?_
                intro z5 hz5 ez5
                refine w_aln rfl ?_
                refine w_cv (st := [.inl z5, .inr (.inr (some m))]) rfl hm rfl (Nat.le_of_ble_eq_true rfl) (fun kk h => h) (r_X12_peek (d := d) (p := q + k) (B := B) hm hb hn f1 (fs) (fh) fb (fun c => ?_) (fun c => by exfalso; omega))
                · skip
                  refine w_addw ?_
                  intro z6 hz6 ez6
                  refine w_bp ?_
                  refine w_subw ?_
                  intro z7 hz7 ez7
                  refine w_pi hm rfl (by decide) rfl (fun q => by cases q) ?_
                  refine w_aln rfl ?_
                  refine w_dupr ?_
                  refine w_gi hm rfl (by decide) rfl ((hn_n (Or.inr (by decide))).trans (fk)) ?_
                  refine w_ic ?_
                  refine w_add ⟨by show (-2147483648 : Int) ≤ (k : Int) + 1; omega, by show (k : Int) + 1 < (2147483648 : Int); omega⟩ ?_
                  refine w_pi hm rfl (by decide) rfl (fun q => by cases q) ?_
                  refine w_aln rfl ?_
                  refine w_dupr ?_
                  refine w_gi hm rfl (by decide) rfl ((hn_n (Or.inr (by decide))).trans ((hn_n (Or.inr (by decide))).trans (fh))) ?_
                  refine w_ic ?_
                  refine w_add ⟨by show (-2147483648 : Int) ≤ ((q + k : Nat) : Int) + 1; omega, by show ((q + k : Nat) : Int) + 1 < (2147483648 : Int); omega⟩ ?_
                  refine w_pi hm rfl (by decide) rfl (fun q => by cases q) ?_
                  refine w_goto ?_
                  have en := rv_nl_s (q := q) (k := k) (rv_le_t l1 l2)
                  have er : rv_rn B n (f + 1) (q + k) = rv_rn B n f (q + (k + 1)) := if_pos ⟨by omega, rv_an_l l1 l2⟩
                  exact ih (k + 1) 0 _ cb sb (by omega) (by omega) f1 ((hn_n (Or.inr (by decide))).trans ((hn_n (Or.inr (by decide))).trans ((hn_n (Or.inr (by decide))).trans (fs)))) ((hn_s).trans (by omega)) (((hn_n (Or.inr (by decide))).trans (hn_s)).trans (by omega)) ⟨by omega, a2, fun h h2 => by omega, fun h h2 => by omega, fun h h2 => by omega, fun h h2 => by omega⟩ (fun g => by exfalso; omega) (fun g g3 => by exfalso; omega) (fun j => Eq.trans (congrArg rv_u8 ((hn_n (Or.inl ne)).trans ((hn_n (Or.inl ne)).trans ((hn_n (Or.inl ne)))))) (fb j)) (fun k' al M' g0 g1 g2 g3 g4 g5 g6 g7 g8 g9 => hK k' al M' (er.trans g0) g1 g2 g3 g4 g5 g6 (rv_o.tr (rv_o.tr (rv_o.tr (rv_o.tr rv_o.rf (rv_o.st (a := m) (j := 14) (by decide))) (rv_o.st (a := m) (j := 13) (by decide))) (rv_o.st (a := m) (j := 4) (by decide))) g7) g8 g9)
            · skip
              refine w_aln rfl ?_
              refine w_aln rfl ?_
              refine w_gl hm rfl (by decide) rfl ((rfl : _ = M.2.1 m 17)) ?_
              refine w_bp ?_
              refine w_lshl ?_
              refine w_aln rfl ?_
              refine w_cv (st := [.inr (.inl ((M.2.1 m 17) <<< ((Int32.ofInt 8).toInt64 &&& 63))), .inr (.inr (some m))]) rfl hm rfl (Nat.le_of_ble_eq_true rfl) (fun kk h => h) (r_X12_peek (d := d) (p := q + k) (B := B) hm hb hn f1 (fs) (fh) fb (fun c => ?_) (fun c => by exfalso; omega))
              · skip
                refine w_i2l ?_
                refine w_lor ?_
                refine w_pl hm rfl (by decide) rfl ?_
                refine w_aln rfl ?_
                refine w_gi hm rfl (by decide) rfl (fk) ?_
                refine w_ic ?_
                refine w_cmge (fun c8 => ?_) (fun c8 => ?_)
                · skip
                  refine w_aln rfl ?_
                  refine w_dupr ?_
                  refine w_gi hm rfl (by decide) rfl (fk) ?_
                  refine w_ic ?_
                  refine w_add ⟨by show (-2147483648 : Int) ≤ (k : Int) + 1; omega, by show (k : Int) + 1 < (2147483648 : Int); omega⟩ ?_
                  refine w_pi hm rfl (by decide) rfl (fun q => by cases q) ?_
                  refine w_aln rfl ?_
                  refine w_dupr ?_
                  refine w_gi hm rfl (by decide) rfl ((hn_n (Or.inr (by decide))).trans (fh)) ?_
                  refine w_ic ?_
                  refine w_add ⟨by show (-2147483648 : Int) ≤ ((q + k : Nat) : Int) + 1; omega, by show ((q + k : Nat) : Int) + 1 < (2147483648 : Int); omega⟩ ?_
                  refine w_pi hm rfl (by decide) rfl (fun q => by cases q) ?_
                  refine w_goto ?_
                  have en := rv_nl_s (q := q) (k := k) (rv_le_t l1 l2)
                  have er : rv_rn B n (f + 1) (q + k) = rv_rn B n f (q + (k + 1)) := if_pos ⟨by omega, rv_an_l l1 l2⟩
                  exact ih (k + 1) 0 _ cb sb (by omega) (by omega) f1 ((hn_n (Or.inr (by decide))).trans ((hn_n (Or.inr (by decide))).trans (fs))) ((hn_s).trans (by omega)) (((hn_n (Or.inr (by decide))).trans (hn_s)).trans (by omega)) ⟨by omega, a2, fun h h2 => by omega, fun h h2 => by omega, fun h h2 => by omega, fun h h2 => by omega⟩ (fun g => wz_sl.trans (by rw [hw8 (by omega)]; rfl)) (fun g g3 => by exfalso; omega) (fun j => Eq.trans (congrArg rv_u8 ((hn_n (Or.inl ne)).trans ((hn_n (Or.inl ne))))) (fb j)) (fun k' al M' g0 g1 g2 g3 g4 g5 g6 g7 g8 g9 => hK k' al M' (er.trans g0) g1 g2 g3 g4 g5 g6 (rv_o.tr (rv_o.tr (rv_o.tr rv_o.rf (rv_o.st (a := m) (j := 13) (by decide))) (rv_o.st (a := m) (j := 4) (by decide))) g7) g8 (fun a j g => (g9 a j g).trans (wz_nl (Decidable.not_and_iff_or_not.mp g))))
                · skip
                  refine w_aln rfl ?_
                  refine w_bp ?_
                  refine w_aln rfl ?_
                  refine w_gi hm rfl (by decide) rfl ((rfl : _ = M.1 m 14)) ?_
                  refine w_mulw ?_
                  intro z9 hz9 ez9
                  refine w_aln rfl ?_
                  refine w_cv (st := [.inl z9, .inr (.inr (some m))]) rfl hm rfl (Nat.le_of_ble_eq_true rfl) (fun kk h => h) (r_X12_peek (d := d) (p := q + k) (B := B) hm hb hn f1 (fs) (fh) fb (fun c => ?_) (fun c => by exfalso; omega))
                  · skip
                    refine w_addw ?_
                    intro z10 hz10 ez10
                    refine w_bp ?_
                    refine w_subw ?_
                    intro z11 hz11 ez11
                    refine w_pi hm rfl (by decide) rfl (fun q => by cases q) ?_
                    refine w_aln rfl ?_
                    refine w_dupr ?_
                    refine w_gi hm rfl (by decide) rfl ((hn_n (Or.inr (by decide))).trans (fk)) ?_
                    refine w_ic ?_
                    refine w_add ⟨by show (-2147483648 : Int) ≤ (k : Int) + 1; omega, by show (k : Int) + 1 < (2147483648 : Int); omega⟩ ?_
                    refine w_pi hm rfl (by decide) rfl (fun q => by cases q) ?_
                    refine w_aln rfl ?_
                    refine w_dupr ?_
                    refine w_gi hm rfl (by decide) rfl ((hn_n (Or.inr (by decide))).trans ((hn_n (Or.inr (by decide))).trans (fh))) ?_
                    refine w_ic ?_
                    refine w_add ⟨by show (-2147483648 : Int) ≤ ((q + k : Nat) : Int) + 1; omega, by show ((q + k : Nat) : Int) + 1 < (2147483648 : Int); omega⟩ ?_
                    refine w_pi hm rfl (by decide) rfl (fun q => by cases q) ?_
                    refine w_goto ?_
                    have en := rv_nl_s (q := q) (k := k) (rv_le_t l1 l2)
                    have er : rv_rn B n (f + 1) (q + k) = rv_rn B n f (q + (k + 1)) := if_pos ⟨by omega, rv_an_l l1 l2⟩
                    exact ih (k + 1) 0 _ cb sb (by omega) (by omega) f1 ((hn_n (Or.inr (by decide))).trans ((hn_n (Or.inr (by decide))).trans ((hn_n (Or.inr (by decide))).trans (fs)))) ((hn_s).trans (by omega)) (((hn_n (Or.inr (by decide))).trans (hn_s)).trans (by omega)) ⟨by omega, a2, fun h h2 => by omega, fun h h2 => by omega, fun h h2 => by omega, fun h h2 => by omega⟩ (fun g => wz_sl.trans (by rw [hw8 (by omega)]; rfl)) (fun g g3 => by exfalso; omega) (fun j => Eq.trans (congrArg rv_u8 ((hn_n (Or.inl ne)).trans ((hn_n (Or.inl ne)).trans ((hn_n (Or.inl ne)))))) (fb j)) (fun k' al M' g0 g1 g2 g3 g4 g5 g6 g7 g8 g9 => hK k' al M' (er.trans g0) g1 g2 g3 g4 g5 g6 (rv_o.tr (rv_o.tr (rv_o.tr (rv_o.tr rv_o.rf (rv_o.st (a := m) (j := 14) (by decide))) (rv_o.st (a := m) (j := 13) (by decide))) (rv_o.st (a := m) (j := 4) (by decide))) g7) g8 (fun a j g => (g9 a j g).trans (wz_nl (Decidable.not_and_iff_or_not.mp g))))
          · skip
            refine w_aln rfl ?_
            refine w_cv (st := []) rfl hm rfl (Nat.le_of_ble_eq_true rfl) (fun kk h => h) (r_X12_peek (d := d) (p := q + k) (B := B) hm hb hn f1 (fs) (fh) fb (fun c => ?_) (fun c => by exfalso; omega))
            · skip
              refine w_cs (st := []) rfl (Nat.le_of_ble_eq_true rfl) (fun kk h => h) (r_X12_isSmall (d := d) (fun a b => ?_) (fun a => by exfalso; omega))
              · skip
                refine w_iln rfl ?_
                refine w_cmne (fun c12 => ?_) (fun c12 => ?_)
                · skip
                  refine w_ic ?_
                  refine w_isn ?_
                  refine w_aln rfl ?_
                  refine w_gi hm rfl (by decide) rfl (fk) ?_
                  refine w_bp ?_
                  refine w_cmge (fun c13 => ?_) (fun c13 => ?_)
                  · skip
                    refine w_aln rfl ?_
                    refine w_gi hm rfl (by decide) rfl (fk) ?_
                    refine w_ic ?_
                    refine w_cmge (fun c14 => ?_) (fun c14 => ?_)
                    · skip
                      refine w_aln rfl ?_
                      refine w_dupr ?_
                      refine w_gi hm rfl (by decide) rfl (fk) ?_
                      refine w_ic ?_
                      refine w_add ⟨by show (-2147483648 : Int) ≤ (k : Int) + 1; omega, by show (k : Int) + 1 < (2147483648 : Int); omega⟩ ?_
                      refine w_pi hm rfl (by decide) rfl (fun q => by cases q) ?_
                      refine w_aln rfl ?_
                      refine w_dupr ?_
                      refine w_gi hm rfl (by decide) rfl ((hn_n (Or.inr (by decide))).trans (fh)) ?_
                      refine w_ic ?_
                      refine w_add ⟨by show (-2147483648 : Int) ≤ ((q + k : Nat) : Int) + 1; omega, by show ((q + k : Nat) : Int) + 1 < (2147483648 : Int); omega⟩ ?_
                      refine w_pi hm rfl (by decide) rfl (fun q => by cases q) ?_
                      refine w_goto ?_
                      have en := rv_nl_s (q := q) (k := k) (rv_le_t l1 l2)
                      have er : rv_rn B n (f + 1) (q + k) = rv_rn B n f (q + (k + 1)) := if_pos ⟨by omega, rv_an_l l1 l2⟩
                      exact ih (k + 1) 0 _ cb sb (by omega) (by omega) f1 ((hn_n (Or.inr (by decide))).trans ((hn_n (Or.inr (by decide))).trans (fs))) ((hn_s).trans (by omega)) (((hn_n (Or.inr (by decide))).trans (hn_s)).trans (by omega)) ⟨by omega, a2, fun h h2 => by omega, fun h h2 => by omega, fun h h2 => by omega, fun h h2 => by omega⟩ (fun g => by exfalso; omega) (fun g g3 => by exfalso; omega) (fun j => Eq.trans (congrArg rv_u8 ((hn_n (Or.inl ne)).trans ((hn_n (Or.inl ne))))) (fb j)) (fun k' al M' g0 g1 g2 g3 g4 g5 g6 g7 g8 g9 => hK k' al M' (er.trans g0) g1 g2 g3 g4 g5 g6 (rv_o.tr (rv_o.tr (rv_o.tr rv_o.rf (rv_o.st (a := m) (j := 13) (by decide))) (rv_o.st (a := m) (j := 4) (by decide))) g7) g8 g9)
                    · skip
                      refine w_aln rfl ?_
                      refine w_bp ?_
                      refine w_aln rfl ?_
                      refine w_gi hm rfl (by decide) rfl ((rfl : _ = M.1 m 14)) ?_
                      refine w_mulw ?_
                      intro z15 hz15 ez15
                      refine w_aln rfl ?_
                      refine w_cv (st := [.inl z15, .inr (.inr (some m))]) rfl hm rfl (Nat.le_of_ble_eq_true rfl) (fun kk h => h) (r_X12_peek (d := d) (p := q + k) (B := B) hm hb hn f1 (fs) (fh) fb (fun c => ?_) (fun c => by exfalso; omega))
                      · skip
                        refine w_addw ?_
                        intro z16 hz16 ez16
                        refine w_bp ?_
                        refine w_subw ?_
                        intro z17 hz17 ez17
                        refine w_pi hm rfl (by decide) rfl (fun q => by cases q) ?_
                        refine w_aln rfl ?_
                        refine w_dupr ?_
                        refine w_gi hm rfl (by decide) rfl ((hn_n (Or.inr (by decide))).trans (fk)) ?_
                        refine w_ic ?_
                        refine w_add ⟨by show (-2147483648 : Int) ≤ (k : Int) + 1; omega, by show (k : Int) + 1 < (2147483648 : Int); omega⟩ ?_
                        refine w_pi hm rfl (by decide) rfl (fun q => by cases q) ?_
                        refine w_aln rfl ?_
                        refine w_dupr ?_
                        refine w_gi hm rfl (by decide) rfl ((hn_n (Or.inr (by decide))).trans ((hn_n (Or.inr (by decide))).trans (fh))) ?_
                        refine w_ic ?_
                        refine w_add ⟨by show (-2147483648 : Int) ≤ ((q + k : Nat) : Int) + 1; omega, by show ((q + k : Nat) : Int) + 1 < (2147483648 : Int); omega⟩ ?_
                        refine w_pi hm rfl (by decide) rfl (fun q => by cases q) ?_
                        refine w_goto ?_
                        have en := rv_nl_s (q := q) (k := k) (rv_le_t l1 l2)
                        have er : rv_rn B n (f + 1) (q + k) = rv_rn B n f (q + (k + 1)) := if_pos ⟨by omega, rv_an_l l1 l2⟩
                        exact ih (k + 1) 0 _ cb sb (by omega) (by omega) f1 ((hn_n (Or.inr (by decide))).trans ((hn_n (Or.inr (by decide))).trans ((hn_n (Or.inr (by decide))).trans (fs)))) ((hn_s).trans (by omega)) (((hn_n (Or.inr (by decide))).trans (hn_s)).trans (by omega)) ⟨by omega, a2, fun h h2 => by omega, fun h h2 => by omega, fun h h2 => by omega, fun h h2 => by omega⟩ (fun g => by exfalso; omega) (fun g g3 => by exfalso; omega) (fun j => Eq.trans (congrArg rv_u8 ((hn_n (Or.inl ne)).trans ((hn_n (Or.inl ne)).trans ((hn_n (Or.inl ne)))))) (fb j)) (fun k' al M' g0 g1 g2 g3 g4 g5 g6 g7 g8 g9 => hK k' al M' (er.trans g0) g1 g2 g3 g4 g5 g6 (rv_o.tr (rv_o.tr (rv_o.tr (rv_o.tr rv_o.rf (rv_o.st (a := m) (j := 14) (by decide))) (rv_o.st (a := m) (j := 13) (by decide))) (rv_o.st (a := m) (j := 4) (by decide))) g7) g8 g9)
                  · skip
                    refine w_aln rfl ?_
                    refine w_aln rfl ?_
                    refine w_gl hm rfl (by decide) rfl ((rfl : _ = M.2.1 m 17)) ?_
                    refine w_bp ?_
                    refine w_lshl ?_
                    refine w_aln rfl ?_
                    refine w_cv (st := [.inr (.inl ((M.2.1 m 17) <<< ((Int32.ofInt 8).toInt64 &&& 63))), .inr (.inr (some m))]) rfl hm rfl (Nat.le_of_ble_eq_true rfl) (fun kk h => h) (r_X12_peek (d := d) (p := q + k) (B := B) hm hb hn f1 (fs) (fh) fb (fun c => ?_) (fun c => by exfalso; omega))
                    · skip
                      refine w_i2l ?_
                      refine w_lor ?_
                      refine w_pl hm rfl (by decide) rfl ?_
                      refine w_aln rfl ?_
                      refine w_gi hm rfl (by decide) rfl (fk) ?_
                      refine w_ic ?_
                      refine w_cmge (fun c18 => ?_) (fun c18 => ?_)
                      · skip
                        refine w_aln rfl ?_
                        refine w_dupr ?_
                        refine w_gi hm rfl (by decide) rfl (fk) ?_
                        refine w_ic ?_
                        refine w_add ⟨by show (-2147483648 : Int) ≤ (k : Int) + 1; omega, by show (k : Int) + 1 < (2147483648 : Int); omega⟩ ?_
                        refine w_pi hm rfl (by decide) rfl (fun q => by cases q) ?_
                        refine w_aln rfl ?_
                        refine w_dupr ?_
                        refine w_gi hm rfl (by decide) rfl ((hn_n (Or.inr (by decide))).trans (fh)) ?_
                        refine w_ic ?_
                        refine w_add ⟨by show (-2147483648 : Int) ≤ ((q + k : Nat) : Int) + 1; omega, by show ((q + k : Nat) : Int) + 1 < (2147483648 : Int); omega⟩ ?_
                        refine w_pi hm rfl (by decide) rfl (fun q => by cases q) ?_
                        refine w_goto ?_
                        have en := rv_nl_s (q := q) (k := k) (rv_le_t l1 l2)
                        have er : rv_rn B n (f + 1) (q + k) = rv_rn B n f (q + (k + 1)) := if_pos ⟨by omega, rv_an_l l1 l2⟩
                        exact ih (k + 1) 0 _ cb sb (by omega) (by omega) f1 ((hn_n (Or.inr (by decide))).trans ((hn_n (Or.inr (by decide))).trans (fs))) ((hn_s).trans (by omega)) (((hn_n (Or.inr (by decide))).trans (hn_s)).trans (by omega)) ⟨by omega, a2, fun h h2 => by omega, fun h h2 => by omega, fun h h2 => by omega, fun h h2 => by omega⟩ (fun g => wz_sl.trans (by rw [hw8 (by omega)]; rfl)) (fun g g3 => by exfalso; omega) (fun j => Eq.trans (congrArg rv_u8 ((hn_n (Or.inl ne)).trans ((hn_n (Or.inl ne))))) (fb j)) (fun k' al M' g0 g1 g2 g3 g4 g5 g6 g7 g8 g9 => hK k' al M' (er.trans g0) g1 g2 g3 g4 g5 g6 (rv_o.tr (rv_o.tr (rv_o.tr rv_o.rf (rv_o.st (a := m) (j := 13) (by decide))) (rv_o.st (a := m) (j := 4) (by decide))) g7) g8 (fun a j g => (g9 a j g).trans (wz_nl (Decidable.not_and_iff_or_not.mp g))))
                      · skip
                        refine w_aln rfl ?_
                        refine w_bp ?_
                        refine w_aln rfl ?_
                        refine w_gi hm rfl (by decide) rfl ((rfl : _ = M.1 m 14)) ?_
                        refine w_mulw ?_
                        intro z19 hz19 ez19
                        refine w_aln rfl ?_
                        refine w_cv (st := [.inl z19, .inr (.inr (some m))]) rfl hm rfl (Nat.le_of_ble_eq_true rfl) (fun kk h => h) (r_X12_peek (d := d) (p := q + k) (B := B) hm hb hn f1 (fs) (fh) fb (fun c => ?_) (fun c => by exfalso; omega))
                        · skip
                          refine w_addw ?_
                          intro z20 hz20 ez20
                          refine w_bp ?_
                          refine w_subw ?_
                          intro z21 hz21 ez21
                          refine w_pi hm rfl (by decide) rfl (fun q => by cases q) ?_
                          refine w_aln rfl ?_
                          refine w_dupr ?_
                          refine w_gi hm rfl (by decide) rfl ((hn_n (Or.inr (by decide))).trans (fk)) ?_
                          refine w_ic ?_
                          refine w_add ⟨by show (-2147483648 : Int) ≤ (k : Int) + 1; omega, by show (k : Int) + 1 < (2147483648 : Int); omega⟩ ?_
                          refine w_pi hm rfl (by decide) rfl (fun q => by cases q) ?_
                          refine w_aln rfl ?_
                          refine w_dupr ?_
                          refine w_gi hm rfl (by decide) rfl ((hn_n (Or.inr (by decide))).trans ((hn_n (Or.inr (by decide))).trans (fh))) ?_
                          refine w_ic ?_
                          refine w_add ⟨by show (-2147483648 : Int) ≤ ((q + k : Nat) : Int) + 1; omega, by show ((q + k : Nat) : Int) + 1 < (2147483648 : Int); omega⟩ ?_
                          refine w_pi hm rfl (by decide) rfl (fun q => by cases q) ?_
                          refine w_goto ?_
                          have en := rv_nl_s (q := q) (k := k) (rv_le_t l1 l2)
                          have er : rv_rn B n (f + 1) (q + k) = rv_rn B n f (q + (k + 1)) := if_pos ⟨by omega, rv_an_l l1 l2⟩
                          exact ih (k + 1) 0 _ cb sb (by omega) (by omega) f1 ((hn_n (Or.inr (by decide))).trans ((hn_n (Or.inr (by decide))).trans ((hn_n (Or.inr (by decide))).trans (fs)))) ((hn_s).trans (by omega)) (((hn_n (Or.inr (by decide))).trans (hn_s)).trans (by omega)) ⟨by omega, a2, fun h h2 => by omega, fun h h2 => by omega, fun h h2 => by omega, fun h h2 => by omega⟩ (fun g => wz_sl.trans (by rw [hw8 (by omega)]; rfl)) (fun g g3 => by exfalso; omega) (fun j => Eq.trans (congrArg rv_u8 ((hn_n (Or.inl ne)).trans ((hn_n (Or.inl ne)).trans ((hn_n (Or.inl ne)))))) (fb j)) (fun k' al M' g0 g1 g2 g3 g4 g5 g6 g7 g8 g9 => hK k' al M' (er.trans g0) g1 g2 g3 g4 g5 g6 (rv_o.tr (rv_o.tr (rv_o.tr (rv_o.tr rv_o.rf (rv_o.st (a := m) (j := 14) (by decide))) (rv_o.st (a := m) (j := 13) (by decide))) (rv_o.st (a := m) (j := 4) (by decide))) g7) g8 (fun a j g => (g9 a j g).trans (wz_nl (Decidable.not_and_iff_or_not.mp g))))
                · skip
                  refine w_ic ?_
                  refine w_goto ?_
                  refine w_isn ?_
                  refine w_aln rfl ?_
                  refine w_gi hm rfl (by decide) rfl (fk) ?_
                  refine w_bp ?_
                  refine w_cmge (fun c22 => ?_) (fun c22 => ?_)
                  · skip
                    refine w_aln rfl ?_
                    refine w_gi hm rfl (by decide) rfl (fk) ?_
                    refine w_ic ?_
                    refine w_cmge (fun c23 => ?_) (fun c23 => ?_)
                    · skip
                      refine w_aln rfl ?_
                      refine w_dupr ?_
                      refine w_gi hm rfl (by decide) rfl (fk) ?_
                      refine w_ic ?_
                      refine w_add ⟨by show (-2147483648 : Int) ≤ (k : Int) + 1; omega, by show (k : Int) + 1 < (2147483648 : Int); omega⟩ ?_
                      refine w_pi hm rfl (by decide) rfl (fun q => by cases q) ?_
                      refine w_aln rfl ?_
                      refine w_dupr ?_
                      refine w_gi hm rfl (by decide) rfl ((hn_n (Or.inr (by decide))).trans (fh)) ?_
                      refine w_ic ?_
                      refine w_add ⟨by show (-2147483648 : Int) ≤ ((q + k : Nat) : Int) + 1; omega, by show ((q + k : Nat) : Int) + 1 < (2147483648 : Int); omega⟩ ?_
                      refine w_pi hm rfl (by decide) rfl (fun q => by cases q) ?_
                      refine w_goto ?_
                      have en := rv_nl_s (q := q) (k := k) (rv_le_t l1 l2)
                      have er : rv_rn B n (f + 1) (q + k) = rv_rn B n f (q + (k + 1)) := if_pos ⟨by omega, rv_an_l l1 l2⟩
                      exact ih (k + 1) 1 _ cb sb (by omega) (by omega) f1 ((hn_n (Or.inr (by decide))).trans ((hn_n (Or.inr (by decide))).trans (fs))) ((hn_s).trans (by omega)) (((hn_n (Or.inr (by decide))).trans (hn_s)).trans (by omega)) ⟨by omega, a2, fun h h2 => by omega, fun h h2 => by omega, fun h h2 => by omega, fun h h2 => by omega⟩ (fun g => by exfalso; omega) (fun g g3 => by exfalso; omega) (fun j => Eq.trans (congrArg rv_u8 ((hn_n (Or.inl ne)).trans ((hn_n (Or.inl ne))))) (fb j)) (fun k' al M' g0 g1 g2 g3 g4 g5 g6 g7 g8 g9 => hK k' al M' (er.trans g0) g1 g2 g3 g4 g5 g6 (rv_o.tr (rv_o.tr (rv_o.tr rv_o.rf (rv_o.st (a := m) (j := 13) (by decide))) (rv_o.st (a := m) (j := 4) (by decide))) g7) g8 g9)
                    · skip
                      refine w_aln rfl ?_
                      refine w_bp ?_
                      refine w_aln rfl ?_
                      refine w_gi hm rfl (by decide) rfl ((rfl : _ = M.1 m 14)) ?_
                      refine w_mulw ?_
                      intro z24 hz24 ez24
                      refine w_aln rfl ?_
                      refine w_cv (st := [.inl z24, .inr (.inr (some m))]) rfl hm rfl (Nat.le_of_ble_eq_true rfl) (fun kk h => h) (r_X12_peek (d := d) (p := q + k) (B := B) hm hb hn f1 (fs) (fh) fb (fun c => ?_) (fun c => by exfalso; omega))
                      · skip
                        refine w_addw ?_
                        intro z25 hz25 ez25
                        refine w_bp ?_
                        refine w_subw ?_
                        intro z26 hz26 ez26
                        refine w_pi hm rfl (by decide) rfl (fun q => by cases q) ?_
                        refine w_aln rfl ?_
                        refine w_dupr ?_
                        refine w_gi hm rfl (by decide) rfl ((hn_n (Or.inr (by decide))).trans (fk)) ?_
                        refine w_ic ?_
                        refine w_add ⟨by show (-2147483648 : Int) ≤ (k : Int) + 1; omega, by show (k : Int) + 1 < (2147483648 : Int); omega⟩ ?_
                        refine w_pi hm rfl (by decide) rfl (fun q => by cases q) ?_
                        refine w_aln rfl ?_
                        refine w_dupr ?_
                        refine w_gi hm rfl (by decide) rfl ((hn_n (Or.inr (by decide))).trans ((hn_n (Or.inr (by decide))).trans (fh))) ?_
                        refine w_ic ?_
                        refine w_add ⟨by show (-2147483648 : Int) ≤ ((q + k : Nat) : Int) + 1; omega, by show ((q + k : Nat) : Int) + 1 < (2147483648 : Int); omega⟩ ?_
                        refine w_pi hm rfl (by decide) rfl (fun q => by cases q) ?_
                        refine w_goto ?_
                        have en := rv_nl_s (q := q) (k := k) (rv_le_t l1 l2)
                        have er : rv_rn B n (f + 1) (q + k) = rv_rn B n f (q + (k + 1)) := if_pos ⟨by omega, rv_an_l l1 l2⟩
                        exact ih (k + 1) 1 _ cb sb (by omega) (by omega) f1 ((hn_n (Or.inr (by decide))).trans ((hn_n (Or.inr (by decide))).trans ((hn_n (Or.inr (by decide))).trans (fs)))) ((hn_s).trans (by omega)) (((hn_n (Or.inr (by decide))).trans (hn_s)).trans (by omega)) ⟨by omega, a2, fun h h2 => by omega, fun h h2 => by omega, fun h h2 => by omega, fun h h2 => by omega⟩ (fun g => by exfalso; omega) (fun g g3 => by exfalso; omega) (fun j => Eq.trans (congrArg rv_u8 ((hn_n (Or.inl ne)).trans ((hn_n (Or.inl ne)).trans ((hn_n (Or.inl ne)))))) (fb j)) (fun k' al M' g0 g1 g2 g3 g4 g5 g6 g7 g8 g9 => hK k' al M' (er.trans g0) g1 g2 g3 g4 g5 g6 (rv_o.tr (rv_o.tr (rv_o.tr (rv_o.tr rv_o.rf (rv_o.st (a := m) (j := 14) (by decide))) (rv_o.st (a := m) (j := 13) (by decide))) (rv_o.st (a := m) (j := 4) (by decide))) g7) g8 g9)
                  · skip
                    refine w_aln rfl ?_
                    refine w_aln rfl ?_
                    refine w_gl hm rfl (by decide) rfl ((rfl : _ = M.2.1 m 17)) ?_
                    refine w_bp ?_
                    refine w_lshl ?_
                    refine w_aln rfl ?_
                    refine w_cv (st := [.inr (.inl ((M.2.1 m 17) <<< ((Int32.ofInt 8).toInt64 &&& 63))), .inr (.inr (some m))]) rfl hm rfl (Nat.le_of_ble_eq_true rfl) (fun kk h => h) (r_X12_peek (d := d) (p := q + k) (B := B) hm hb hn f1 (fs) (fh) fb (fun c => ?_) (fun c => by exfalso; omega))
                    · skip
                      refine w_i2l ?_
                      refine w_lor ?_
                      refine w_pl hm rfl (by decide) rfl ?_
                      refine w_aln rfl ?_
                      refine w_gi hm rfl (by decide) rfl (fk) ?_
                      refine w_ic ?_
                      refine w_cmge (fun c27 => ?_) (fun c27 => ?_)
                      · skip
                        refine w_aln rfl ?_
                        refine w_dupr ?_
                        refine w_gi hm rfl (by decide) rfl (fk) ?_
                        refine w_ic ?_
                        refine w_add ⟨by show (-2147483648 : Int) ≤ (k : Int) + 1; omega, by show (k : Int) + 1 < (2147483648 : Int); omega⟩ ?_
                        refine w_pi hm rfl (by decide) rfl (fun q => by cases q) ?_
                        refine w_aln rfl ?_
                        refine w_dupr ?_
                        refine w_gi hm rfl (by decide) rfl ((hn_n (Or.inr (by decide))).trans (fh)) ?_
                        refine w_ic ?_
                        refine w_add ⟨by show (-2147483648 : Int) ≤ ((q + k : Nat) : Int) + 1; omega, by show ((q + k : Nat) : Int) + 1 < (2147483648 : Int); omega⟩ ?_
                        refine w_pi hm rfl (by decide) rfl (fun q => by cases q) ?_
                        refine w_goto ?_
                        have en := rv_nl_s (q := q) (k := k) (rv_le_t l1 l2)
                        have er : rv_rn B n (f + 1) (q + k) = rv_rn B n f (q + (k + 1)) := if_pos ⟨by omega, rv_an_l l1 l2⟩
                        exact ih (k + 1) 1 _ cb sb (by omega) (by omega) f1 ((hn_n (Or.inr (by decide))).trans ((hn_n (Or.inr (by decide))).trans (fs))) ((hn_s).trans (by omega)) (((hn_n (Or.inr (by decide))).trans (hn_s)).trans (by omega)) ⟨by omega, a2, fun h h2 => by omega, fun h h2 => by omega, fun h h2 => by omega, fun h h2 => by omega⟩ (fun g => wz_sl.trans (by rw [hw8 (by omega)]; rfl)) (fun g g3 => by exfalso; omega) (fun j => Eq.trans (congrArg rv_u8 ((hn_n (Or.inl ne)).trans ((hn_n (Or.inl ne))))) (fb j)) (fun k' al M' g0 g1 g2 g3 g4 g5 g6 g7 g8 g9 => hK k' al M' (er.trans g0) g1 g2 g3 g4 g5 g6 (rv_o.tr (rv_o.tr (rv_o.tr rv_o.rf (rv_o.st (a := m) (j := 13) (by decide))) (rv_o.st (a := m) (j := 4) (by decide))) g7) g8 (fun a j g => (g9 a j g).trans (wz_nl (Decidable.not_and_iff_or_not.mp g))))
                      · skip
                        refine w_aln rfl ?_
                        refine w_bp ?_
                        refine w_aln rfl ?_
                        refine w_gi hm rfl (by decide) rfl ((rfl : _ = M.1 m 14)) ?_
                        refine w_mulw ?_
                        intro z28 hz28 ez28
                        refine w_aln rfl ?_
                        refine w_cv (st := [.inl z28, .inr (.inr (some m))]) rfl hm rfl (Nat.le_of_ble_eq_true rfl) (fun kk h => h) (r_X12_peek (d := d) (p := q + k) (B := B) hm hb hn f1 (fs) (fh) fb (fun c => ?_) (fun c => by exfalso; omega))
                        · skip
                          refine w_addw ?_
                          intro z29 hz29 ez29
                          refine w_bp ?_
                          refine w_subw ?_
                          intro z30 hz30 ez30
                          refine w_pi hm rfl (by decide) rfl (fun q => by cases q) ?_
                          refine w_aln rfl ?_
                          refine w_dupr ?_
                          refine w_gi hm rfl (by decide) rfl ((hn_n (Or.inr (by decide))).trans (fk)) ?_
                          refine w_ic ?_
                          refine w_add ⟨by show (-2147483648 : Int) ≤ (k : Int) + 1; omega, by show (k : Int) + 1 < (2147483648 : Int); omega⟩ ?_
                          refine w_pi hm rfl (by decide) rfl (fun q => by cases q) ?_
                          refine w_aln rfl ?_
                          refine w_dupr ?_
                          refine w_gi hm rfl (by decide) rfl ((hn_n (Or.inr (by decide))).trans ((hn_n (Or.inr (by decide))).trans (fh))) ?_
                          refine w_ic ?_
                          refine w_add ⟨by show (-2147483648 : Int) ≤ ((q + k : Nat) : Int) + 1; omega, by show ((q + k : Nat) : Int) + 1 < (2147483648 : Int); omega⟩ ?_
                          refine w_pi hm rfl (by decide) rfl (fun q => by cases q) ?_
                          refine w_goto ?_
                          have en := rv_nl_s (q := q) (k := k) (rv_le_t l1 l2)
                          have er : rv_rn B n (f + 1) (q + k) = rv_rn B n f (q + (k + 1)) := if_pos ⟨by omega, rv_an_l l1 l2⟩
                          exact ih (k + 1) 1 _ cb sb (by omega) (by omega) f1 ((hn_n (Or.inr (by decide))).trans ((hn_n (Or.inr (by decide))).trans ((hn_n (Or.inr (by decide))).trans (fs)))) ((hn_s).trans (by omega)) (((hn_n (Or.inr (by decide))).trans (hn_s)).trans (by omega)) ⟨by omega, a2, fun h h2 => by omega, fun h h2 => by omega, fun h h2 => by omega, fun h h2 => by omega⟩ (fun g => wz_sl.trans (by rw [hw8 (by omega)]; rfl)) (fun g g3 => by exfalso; omega) (fun j => Eq.trans (congrArg rv_u8 ((hn_n (Or.inl ne)).trans ((hn_n (Or.inl ne)).trans ((hn_n (Or.inl ne)))))) (fb j)) (fun k' al M' g0 g1 g2 g3 g4 g5 g6 g7 g8 g9 => hK k' al M' (er.trans g0) g1 g2 g3 g4 g5 g6 (rv_o.tr (rv_o.tr (rv_o.tr (rv_o.tr rv_o.rf (rv_o.st (a := m) (j := 14) (by decide))) (rv_o.st (a := m) (j := 13) (by decide))) (rv_o.st (a := m) (j := 4) (by decide))) g7) g8 (fun a j g => (g9 a j g).trans (wz_nl (Decidable.not_and_iff_or_not.mp g))))
        · exfalso; omega
      · skip
        refine w_ifne (fun c31 => ?_) (fun c31 => ?_)
        · exfalso; omega
        · skip
          refine w_aln rfl ?_
          refine w_cv (st := []) rfl hm rfl (Nat.le_of_ble_eq_true rfl) (fun kk h => h) (r_X12_peek (d := d) (p := q + k) (B := B) hm hb hn f1 (fs) (fh) fb (fun c => ?_) (fun c => by exfalso; omega))
          · skip
            refine w_cs (st := []) rfl (Nat.le_of_ble_eq_true rfl) (fun kk h => h) (r_X12_isDigit (d := d) (fun d1 d2 => ?_) (fun d0 => ?_))
            · skip
              refine w_ifeq (fun c32 => ?_) (fun c32 => ?_)
              · exfalso; omega
              · skip
                refine w_iln rfl ?_
                refine w_ifeq (fun c33 => ?_) (fun c33 => ?_)
                · skip
                  refine w_ic ?_
                  refine w_isn ?_
                  refine w_aln rfl ?_
                  refine w_gi hm rfl (by decide) rfl (fk) ?_
                  refine w_bp ?_
                  refine w_cmge (fun c34 => ?_) (fun c34 => ?_)
                  · skip
                    refine w_aln rfl ?_
                    refine w_gi hm rfl (by decide) rfl (fk) ?_
                    refine w_ic ?_
                    refine w_cmge (fun c35 => ?_) (fun c35 => ?_)
                    · skip
                      refine w_aln rfl ?_
                      refine w_dupr ?_
                      refine w_gi hm rfl (by decide) rfl (fk) ?_
                      refine w_ic ?_
                      refine w_add ⟨by show (-2147483648 : Int) ≤ (k : Int) + 1; omega, by show (k : Int) + 1 < (2147483648 : Int); omega⟩ ?_
                      refine w_pi hm rfl (by decide) rfl (fun q => by cases q) ?_
                      refine w_aln rfl ?_
                      refine w_dupr ?_
                      refine w_gi hm rfl (by decide) rfl ((hn_n (Or.inr (by decide))).trans (fh)) ?_
                      refine w_ic ?_
                      refine w_add ⟨by show (-2147483648 : Int) ≤ ((q + k : Nat) : Int) + 1; omega, by show ((q + k : Nat) : Int) + 1 < (2147483648 : Int); omega⟩ ?_
                      refine w_pi hm rfl (by decide) rfl (fun q => by cases q) ?_
                      refine w_goto ?_
                      have en := rv_nl_n (q := q) (k := k) (rv_le_f l0)
                      have er : rv_rn B n (f + 1) (q + k) = rv_rn B n f (q + (k + 1)) := if_pos ⟨by omega, rv_an_d d1 d2⟩
                      exact ih (k + 1) 0 _ cb sb (by omega) (by omega) f1 ((hn_n (Or.inr (by decide))).trans ((hn_n (Or.inr (by decide))).trans (fs))) ((hn_s).trans (by omega)) (((hn_n (Or.inr (by decide))).trans (hn_s)).trans (by omega)) ⟨by omega, a2, fun h h2 => by omega, fun h h2 => by omega, fun h h2 => by omega, fun h h2 => by omega⟩ (fun g => by exfalso; omega) (fun g g3 => by exfalso; omega) (fun j => Eq.trans (congrArg rv_u8 ((hn_n (Or.inl ne)).trans ((hn_n (Or.inl ne))))) (fb j)) (fun k' al M' g0 g1 g2 g3 g4 g5 g6 g7 g8 g9 => hK k' al M' (er.trans g0) g1 g2 g3 g4 g5 g6 (rv_o.tr (rv_o.tr (rv_o.tr rv_o.rf (rv_o.st (a := m) (j := 13) (by decide))) (rv_o.st (a := m) (j := 4) (by decide))) g7) g8 g9)
                    · skip
                      refine w_aln rfl ?_
                      refine w_bp ?_
                      refine w_aln rfl ?_
                      refine w_gi hm rfl (by decide) rfl ((rfl : _ = M.1 m 14)) ?_
                      refine w_mulw ?_
                      intro z36 hz36 ez36
                      refine w_aln rfl ?_
                      refine w_cv (st := [.inl z36, .inr (.inr (some m))]) rfl hm rfl (Nat.le_of_ble_eq_true rfl) (fun kk h => h) (r_X12_peek (d := d) (p := q + k) (B := B) hm hb hn f1 (fs) (fh) fb (fun c => ?_) (fun c => by exfalso; omega))
                      · skip
                        refine w_addw ?_
                        intro z37 hz37 ez37
                        refine w_bp ?_
                        refine w_subw ?_
                        intro z38 hz38 ez38
                        refine w_pi hm rfl (by decide) rfl (fun q => by cases q) ?_
                        refine w_aln rfl ?_
                        refine w_dupr ?_
                        refine w_gi hm rfl (by decide) rfl ((hn_n (Or.inr (by decide))).trans (fk)) ?_
                        refine w_ic ?_
                        refine w_add ⟨by show (-2147483648 : Int) ≤ (k : Int) + 1; omega, by show (k : Int) + 1 < (2147483648 : Int); omega⟩ ?_
                        refine w_pi hm rfl (by decide) rfl (fun q => by cases q) ?_
                        refine w_aln rfl ?_
                        refine w_dupr ?_
                        refine w_gi hm rfl (by decide) rfl ((hn_n (Or.inr (by decide))).trans ((hn_n (Or.inr (by decide))).trans (fh))) ?_
                        refine w_ic ?_
                        refine w_add ⟨by show (-2147483648 : Int) ≤ ((q + k : Nat) : Int) + 1; omega, by show ((q + k : Nat) : Int) + 1 < (2147483648 : Int); omega⟩ ?_
                        refine w_pi hm rfl (by decide) rfl (fun q => by cases q) ?_
                        refine w_goto ?_
                        have en := rv_nl_n (q := q) (k := k) (rv_le_f l0)
                        have er : rv_rn B n (f + 1) (q + k) = rv_rn B n f (q + (k + 1)) := if_pos ⟨by omega, rv_an_d d1 d2⟩
                        exact ih (k + 1) 0 _ cb sb (by omega) (by omega) f1 ((hn_n (Or.inr (by decide))).trans ((hn_n (Or.inr (by decide))).trans ((hn_n (Or.inr (by decide))).trans (fs)))) ((hn_s).trans (by omega)) (((hn_n (Or.inr (by decide))).trans (hn_s)).trans (by omega)) ⟨by omega, a2, fun h h2 => by omega, fun h h2 => by omega, fun h h2 => by omega, fun h h2 => by omega⟩ (fun g => by exfalso; omega) (fun g g3 => by
                          obtain ⟨u1, u2, u3, u4, u5, u6⟩ := hu (by omega) (by omega)
                          have q1 := rv_wm ez36 ⟨by omega, by omega⟩
                          have q2 := rv_wa ez37 ⟨by omega, by omega⟩
                          have q3 := rv_ws ez38 ⟨by omega, by omega⟩
                          have q4 : ((mj_p0 (mj_p0 (mj_p0 M m 14 z38) m 13 ((k : Int) + 1)) m 4 (((q + k : Nat) : Int) + 1))).1 m 14 = z38 := (hn_n (Or.inr (by decide))).trans ((hn_n (Or.inr (by decide))).trans (hn_s))
                          rw [q4]
                          refine ⟨?_, by omega, fun h => by omega, fun h => by omega, fun h => by omega, by omega⟩
                          show _ = 10 * rv_nu B q k + B (q + k) - 48
                          omega) (fun j => Eq.trans (congrArg rv_u8 ((hn_n (Or.inl ne)).trans ((hn_n (Or.inl ne)).trans ((hn_n (Or.inl ne)))))) (fb j)) (fun k' al M' g0 g1 g2 g3 g4 g5 g6 g7 g8 g9 => hK k' al M' (er.trans g0) g1 g2 g3 g4 g5 g6 (rv_o.tr (rv_o.tr (rv_o.tr (rv_o.tr rv_o.rf (rv_o.st (a := m) (j := 14) (by decide))) (rv_o.st (a := m) (j := 13) (by decide))) (rv_o.st (a := m) (j := 4) (by decide))) g7) g8 g9)
                  · skip
                    refine w_aln rfl ?_
                    refine w_aln rfl ?_
                    refine w_gl hm rfl (by decide) rfl ((rfl : _ = M.2.1 m 17)) ?_
                    refine w_bp ?_
                    refine w_lshl ?_
                    refine w_aln rfl ?_
                    refine w_cv (st := [.inr (.inl ((M.2.1 m 17) <<< ((Int32.ofInt 8).toInt64 &&& 63))), .inr (.inr (some m))]) rfl hm rfl (Nat.le_of_ble_eq_true rfl) (fun kk h => h) (r_X12_peek (d := d) (p := q + k) (B := B) hm hb hn f1 (fs) (fh) fb (fun c => ?_) (fun c => by exfalso; omega))
                    · skip
                      refine w_i2l ?_
                      refine w_lor ?_
                      refine w_pl hm rfl (by decide) rfl ?_
                      refine w_aln rfl ?_
                      refine w_gi hm rfl (by decide) rfl (fk) ?_
                      refine w_ic ?_
                      refine w_cmge (fun c39 => ?_) (fun c39 => ?_)
                      · skip
                        refine w_aln rfl ?_
                        refine w_dupr ?_
                        refine w_gi hm rfl (by decide) rfl (fk) ?_
                        refine w_ic ?_
                        refine w_add ⟨by show (-2147483648 : Int) ≤ (k : Int) + 1; omega, by show (k : Int) + 1 < (2147483648 : Int); omega⟩ ?_
                        refine w_pi hm rfl (by decide) rfl (fun q => by cases q) ?_
                        refine w_aln rfl ?_
                        refine w_dupr ?_
                        refine w_gi hm rfl (by decide) rfl ((hn_n (Or.inr (by decide))).trans (fh)) ?_
                        refine w_ic ?_
                        refine w_add ⟨by show (-2147483648 : Int) ≤ ((q + k : Nat) : Int) + 1; omega, by show ((q + k : Nat) : Int) + 1 < (2147483648 : Int); omega⟩ ?_
                        refine w_pi hm rfl (by decide) rfl (fun q => by cases q) ?_
                        refine w_goto ?_
                        have en := rv_nl_n (q := q) (k := k) (rv_le_f l0)
                        have er : rv_rn B n (f + 1) (q + k) = rv_rn B n f (q + (k + 1)) := if_pos ⟨by omega, rv_an_d d1 d2⟩
                        exact ih (k + 1) 0 _ cb sb (by omega) (by omega) f1 ((hn_n (Or.inr (by decide))).trans ((hn_n (Or.inr (by decide))).trans (fs))) ((hn_s).trans (by omega)) (((hn_n (Or.inr (by decide))).trans (hn_s)).trans (by omega)) ⟨by omega, a2, fun h h2 => by omega, fun h h2 => by omega, fun h h2 => by omega, fun h h2 => by omega⟩ (fun g => wz_sl.trans (by rw [hw8 (by omega)]; rfl)) (fun g g3 => by exfalso; omega) (fun j => Eq.trans (congrArg rv_u8 ((hn_n (Or.inl ne)).trans ((hn_n (Or.inl ne))))) (fb j)) (fun k' al M' g0 g1 g2 g3 g4 g5 g6 g7 g8 g9 => hK k' al M' (er.trans g0) g1 g2 g3 g4 g5 g6 (rv_o.tr (rv_o.tr (rv_o.tr rv_o.rf (rv_o.st (a := m) (j := 13) (by decide))) (rv_o.st (a := m) (j := 4) (by decide))) g7) g8 (fun a j g => (g9 a j g).trans (wz_nl (Decidable.not_and_iff_or_not.mp g))))
                      · skip
                        refine w_aln rfl ?_
                        refine w_bp ?_
                        refine w_aln rfl ?_
                        refine w_gi hm rfl (by decide) rfl ((rfl : _ = M.1 m 14)) ?_
                        refine w_mulw ?_
                        intro z40 hz40 ez40
                        refine w_aln rfl ?_
                        refine w_cv (st := [.inl z40, .inr (.inr (some m))]) rfl hm rfl (Nat.le_of_ble_eq_true rfl) (fun kk h => h) (r_X12_peek (d := d) (p := q + k) (B := B) hm hb hn f1 (fs) (fh) fb (fun c => ?_) (fun c => by exfalso; omega))
                        · skip
                          refine w_addw ?_
                          intro z41 hz41 ez41
                          refine w_bp ?_
                          refine w_subw ?_
                          intro z42 hz42 ez42
                          refine w_pi hm rfl (by decide) rfl (fun q => by cases q) ?_
                          refine w_aln rfl ?_
                          refine w_dupr ?_
                          refine w_gi hm rfl (by decide) rfl ((hn_n (Or.inr (by decide))).trans (fk)) ?_
                          refine w_ic ?_
                          refine w_add ⟨by show (-2147483648 : Int) ≤ (k : Int) + 1; omega, by show (k : Int) + 1 < (2147483648 : Int); omega⟩ ?_
                          refine w_pi hm rfl (by decide) rfl (fun q => by cases q) ?_
                          refine w_aln rfl ?_
                          refine w_dupr ?_
                          refine w_gi hm rfl (by decide) rfl ((hn_n (Or.inr (by decide))).trans ((hn_n (Or.inr (by decide))).trans (fh))) ?_
                          refine w_ic ?_
                          refine w_add ⟨by show (-2147483648 : Int) ≤ ((q + k : Nat) : Int) + 1; omega, by show ((q + k : Nat) : Int) + 1 < (2147483648 : Int); omega⟩ ?_
                          refine w_pi hm rfl (by decide) rfl (fun q => by cases q) ?_
                          refine w_goto ?_
                          have en := rv_nl_n (q := q) (k := k) (rv_le_f l0)
                          have er : rv_rn B n (f + 1) (q + k) = rv_rn B n f (q + (k + 1)) := if_pos ⟨by omega, rv_an_d d1 d2⟩
                          exact ih (k + 1) 0 _ cb sb (by omega) (by omega) f1 ((hn_n (Or.inr (by decide))).trans ((hn_n (Or.inr (by decide))).trans ((hn_n (Or.inr (by decide))).trans (fs)))) ((hn_s).trans (by omega)) (((hn_n (Or.inr (by decide))).trans (hn_s)).trans (by omega)) ⟨by omega, a2, fun h h2 => by omega, fun h h2 => by omega, fun h h2 => by omega, fun h h2 => by omega⟩ (fun g => wz_sl.trans (by rw [hw8 (by omega)]; rfl)) (fun g g3 => by
                            obtain ⟨u1, u2, u3, u4, u5, u6⟩ := hu (by omega) (by omega)
                            have q1 := rv_wm ez40 ⟨by omega, by omega⟩
                            have q2 := rv_wa ez41 ⟨by omega, by omega⟩
                            have q3 := rv_ws ez42 ⟨by omega, by omega⟩
                            have q4 : ((mj_p0 (mj_p0 (mj_p0 (mj_p1 M m 17 (((M.2.1 m 17) <<< ((Int32.ofInt 8).toInt64 &&& 63)) ||| ((Int32.ofInt (B (q + k))).toInt64))) m 14 z42) m 13 ((k : Int) + 1)) m 4 (((q + k : Nat) : Int) + 1))).1 m 14 = z42 := (hn_n (Or.inr (by decide))).trans ((hn_n (Or.inr (by decide))).trans (hn_s))
                            rw [q4]
                            refine ⟨?_, by omega, fun h => by omega, fun h => by omega, fun h => by omega, by omega⟩
                            show _ = 10 * rv_nu B q k + B (q + k) - 48
                            omega) (fun j => Eq.trans (congrArg rv_u8 ((hn_n (Or.inl ne)).trans ((hn_n (Or.inl ne)).trans ((hn_n (Or.inl ne)))))) (fb j)) (fun k' al M' g0 g1 g2 g3 g4 g5 g6 g7 g8 g9 => hK k' al M' (er.trans g0) g1 g2 g3 g4 g5 g6 (rv_o.tr (rv_o.tr (rv_o.tr (rv_o.tr rv_o.rf (rv_o.st (a := m) (j := 14) (by decide))) (rv_o.st (a := m) (j := 13) (by decide))) (rv_o.st (a := m) (j := 4) (by decide))) g7) g8 (fun a j g => (g9 a j g).trans (wz_nl (Decidable.not_and_iff_or_not.mp g))))
                · skip
                  refine w_aln rfl ?_
                  refine w_cv (st := []) rfl hm rfl (Nat.le_of_ble_eq_true rfl) (fun kk h => h) (r_X12_peek (d := d) (p := q + k) (B := B) hm hb hn f1 (fs) (fh) fb (fun c => ?_) (fun c => by exfalso; omega))
                  · skip
                    refine w_cs (st := []) rfl (Nat.le_of_ble_eq_true rfl) (fun kk h => h) (r_X12_isSmall (d := d) (fun a b => by exfalso; omega) (fun a => ?_))
                    · skip
                      refine w_iln rfl ?_
                      refine w_cmne (fun c43 => ?_) (fun c43 => ?_)
                      · skip
                        refine w_ic ?_
                        refine w_isn ?_
                        refine w_aln rfl ?_
                        refine w_gi hm rfl (by decide) rfl (fk) ?_
                        refine w_bp ?_
                        refine w_cmge (fun c44 => ?_) (fun c44 => ?_)
                        · skip
                          refine w_aln rfl ?_
                          refine w_gi hm rfl (by decide) rfl (fk) ?_
                          refine w_ic ?_
                          refine w_cmge (fun c45 => ?_) (fun c45 => ?_)
                          · skip
                            refine w_aln rfl ?_
                            refine w_dupr ?_
                            refine w_gi hm rfl (by decide) rfl (fk) ?_
                            refine w_ic ?_
                            refine w_add ⟨by show (-2147483648 : Int) ≤ (k : Int) + 1; omega, by show (k : Int) + 1 < (2147483648 : Int); omega⟩ ?_
                            refine w_pi hm rfl (by decide) rfl (fun q => by cases q) ?_
                            refine w_aln rfl ?_
                            refine w_dupr ?_
                            refine w_gi hm rfl (by decide) rfl ((hn_n (Or.inr (by decide))).trans (fh)) ?_
                            refine w_ic ?_
                            refine w_add ⟨by show (-2147483648 : Int) ≤ ((q + k : Nat) : Int) + 1; omega, by show ((q + k : Nat) : Int) + 1 < (2147483648 : Int); omega⟩ ?_
                            refine w_pi hm rfl (by decide) rfl (fun q => by cases q) ?_
                            refine w_goto ?_
                            have en := rv_nl_n (q := q) (k := k) (rv_le_f l0)
                            have er : rv_rn B n (f + 1) (q + k) = rv_rn B n f (q + (k + 1)) := if_pos ⟨by omega, rv_an_d d1 d2⟩
                            exact ih (k + 1) 0 _ cb sb (by omega) (by omega) f1 ((hn_n (Or.inr (by decide))).trans ((hn_n (Or.inr (by decide))).trans (fs))) ((hn_s).trans (by omega)) (((hn_n (Or.inr (by decide))).trans (hn_s)).trans (by omega)) ⟨by omega, a2, fun h h2 => by omega, fun h h2 => by omega, fun h h2 => by omega, fun h h2 => by omega⟩ (fun g => by exfalso; omega) (fun g g3 => by exfalso; omega) (fun j => Eq.trans (congrArg rv_u8 ((hn_n (Or.inl ne)).trans ((hn_n (Or.inl ne))))) (fb j)) (fun k' al M' g0 g1 g2 g3 g4 g5 g6 g7 g8 g9 => hK k' al M' (er.trans g0) g1 g2 g3 g4 g5 g6 (rv_o.tr (rv_o.tr (rv_o.tr rv_o.rf (rv_o.st (a := m) (j := 13) (by decide))) (rv_o.st (a := m) (j := 4) (by decide))) g7) g8 g9)
                          · skip
                            refine w_aln rfl ?_
                            refine w_bp ?_
                            refine w_aln rfl ?_
                            refine w_gi hm rfl (by decide) rfl ((rfl : _ = M.1 m 14)) ?_
                            refine w_mulw ?_
                            intro z46 hz46 ez46
                            refine w_aln rfl ?_
                            refine w_cv (st := [.inl z46, .inr (.inr (some m))]) rfl hm rfl (Nat.le_of_ble_eq_true rfl) (fun kk h => h) (r_X12_peek (d := d) (p := q + k) (B := B) hm hb hn f1 (fs) (fh) fb (fun c => ?_) (fun c => by exfalso; omega))
                            · skip
                              refine w_addw ?_
                              intro z47 hz47 ez47
                              refine w_bp ?_
                              refine w_subw ?_
                              intro z48 hz48 ez48
                              refine w_pi hm rfl (by decide) rfl (fun q => by cases q) ?_
                              refine w_aln rfl ?_
                              refine w_dupr ?_
                              refine w_gi hm rfl (by decide) rfl ((hn_n (Or.inr (by decide))).trans (fk)) ?_
                              refine w_ic ?_
                              refine w_add ⟨by show (-2147483648 : Int) ≤ (k : Int) + 1; omega, by show (k : Int) + 1 < (2147483648 : Int); omega⟩ ?_
                              refine w_pi hm rfl (by decide) rfl (fun q => by cases q) ?_
                              refine w_aln rfl ?_
                              refine w_dupr ?_
                              refine w_gi hm rfl (by decide) rfl ((hn_n (Or.inr (by decide))).trans ((hn_n (Or.inr (by decide))).trans (fh))) ?_
                              refine w_ic ?_
                              refine w_add ⟨by show (-2147483648 : Int) ≤ ((q + k : Nat) : Int) + 1; omega, by show ((q + k : Nat) : Int) + 1 < (2147483648 : Int); omega⟩ ?_
                              refine w_pi hm rfl (by decide) rfl (fun q => by cases q) ?_
                              refine w_goto ?_
                              have en := rv_nl_n (q := q) (k := k) (rv_le_f l0)
                              have er : rv_rn B n (f + 1) (q + k) = rv_rn B n f (q + (k + 1)) := if_pos ⟨by omega, rv_an_d d1 d2⟩
                              exact ih (k + 1) 0 _ cb sb (by omega) (by omega) f1 ((hn_n (Or.inr (by decide))).trans ((hn_n (Or.inr (by decide))).trans ((hn_n (Or.inr (by decide))).trans (fs)))) ((hn_s).trans (by omega)) (((hn_n (Or.inr (by decide))).trans (hn_s)).trans (by omega)) ⟨by omega, a2, fun h h2 => by omega, fun h h2 => by omega, fun h h2 => by omega, fun h h2 => by omega⟩ (fun g => by exfalso; omega) (fun g g3 => by
                                obtain ⟨u1, u2, u3, u4, u5, u6⟩ := hu (by omega) (by omega)
                                have q1 := rv_wm ez46 ⟨by omega, by omega⟩
                                have q2 := rv_wa ez47 ⟨by omega, by omega⟩
                                have q3 := rv_ws ez48 ⟨by omega, by omega⟩
                                have q4 : ((mj_p0 (mj_p0 (mj_p0 M m 14 z48) m 13 ((k : Int) + 1)) m 4 (((q + k : Nat) : Int) + 1))).1 m 14 = z48 := (hn_n (Or.inr (by decide))).trans ((hn_n (Or.inr (by decide))).trans (hn_s))
                                rw [q4]
                                refine ⟨?_, by omega, fun h => by omega, fun h => by omega, fun h => by omega, by omega⟩
                                show _ = 10 * rv_nu B q k + B (q + k) - 48
                                omega) (fun j => Eq.trans (congrArg rv_u8 ((hn_n (Or.inl ne)).trans ((hn_n (Or.inl ne)).trans ((hn_n (Or.inl ne)))))) (fb j)) (fun k' al M' g0 g1 g2 g3 g4 g5 g6 g7 g8 g9 => hK k' al M' (er.trans g0) g1 g2 g3 g4 g5 g6 (rv_o.tr (rv_o.tr (rv_o.tr (rv_o.tr rv_o.rf (rv_o.st (a := m) (j := 14) (by decide))) (rv_o.st (a := m) (j := 13) (by decide))) (rv_o.st (a := m) (j := 4) (by decide))) g7) g8 g9)
                        · skip
                          refine w_aln rfl ?_
                          refine w_aln rfl ?_
                          refine w_gl hm rfl (by decide) rfl ((rfl : _ = M.2.1 m 17)) ?_
                          refine w_bp ?_
                          refine w_lshl ?_
                          refine w_aln rfl ?_
                          refine w_cv (st := [.inr (.inl ((M.2.1 m 17) <<< ((Int32.ofInt 8).toInt64 &&& 63))), .inr (.inr (some m))]) rfl hm rfl (Nat.le_of_ble_eq_true rfl) (fun kk h => h) (r_X12_peek (d := d) (p := q + k) (B := B) hm hb hn f1 (fs) (fh) fb (fun c => ?_) (fun c => by exfalso; omega))
                          · skip
                            refine w_i2l ?_
                            refine w_lor ?_
                            refine w_pl hm rfl (by decide) rfl ?_
                            refine w_aln rfl ?_
                            refine w_gi hm rfl (by decide) rfl (fk) ?_
                            refine w_ic ?_
                            refine w_cmge (fun c49 => ?_) (fun c49 => ?_)
                            · skip
                              refine w_aln rfl ?_
                              refine w_dupr ?_
                              refine w_gi hm rfl (by decide) rfl (fk) ?_
                              refine w_ic ?_
                              refine w_add ⟨by show (-2147483648 : Int) ≤ (k : Int) + 1; omega, by show (k : Int) + 1 < (2147483648 : Int); omega⟩ ?_
                              refine w_pi hm rfl (by decide) rfl (fun q => by cases q) ?_
                              refine w_aln rfl ?_
                              refine w_dupr ?_
                              refine w_gi hm rfl (by decide) rfl ((hn_n (Or.inr (by decide))).trans (fh)) ?_
                              refine w_ic ?_
                              refine w_add ⟨by show (-2147483648 : Int) ≤ ((q + k : Nat) : Int) + 1; omega, by show ((q + k : Nat) : Int) + 1 < (2147483648 : Int); omega⟩ ?_
                              refine w_pi hm rfl (by decide) rfl (fun q => by cases q) ?_
                              refine w_goto ?_
                              have en := rv_nl_n (q := q) (k := k) (rv_le_f l0)
                              have er : rv_rn B n (f + 1) (q + k) = rv_rn B n f (q + (k + 1)) := if_pos ⟨by omega, rv_an_d d1 d2⟩
                              exact ih (k + 1) 0 _ cb sb (by omega) (by omega) f1 ((hn_n (Or.inr (by decide))).trans ((hn_n (Or.inr (by decide))).trans (fs))) ((hn_s).trans (by omega)) (((hn_n (Or.inr (by decide))).trans (hn_s)).trans (by omega)) ⟨by omega, a2, fun h h2 => by omega, fun h h2 => by omega, fun h h2 => by omega, fun h h2 => by omega⟩ (fun g => wz_sl.trans (by rw [hw8 (by omega)]; rfl)) (fun g g3 => by exfalso; omega) (fun j => Eq.trans (congrArg rv_u8 ((hn_n (Or.inl ne)).trans ((hn_n (Or.inl ne))))) (fb j)) (fun k' al M' g0 g1 g2 g3 g4 g5 g6 g7 g8 g9 => hK k' al M' (er.trans g0) g1 g2 g3 g4 g5 g6 (rv_o.tr (rv_o.tr (rv_o.tr rv_o.rf (rv_o.st (a := m) (j := 13) (by decide))) (rv_o.st (a := m) (j := 4) (by decide))) g7) g8 (fun a j g => (g9 a j g).trans (wz_nl (Decidable.not_and_iff_or_not.mp g))))
                            · skip
                              refine w_aln rfl ?_
                              refine w_bp ?_
                              refine w_aln rfl ?_
                              refine w_gi hm rfl (by decide) rfl ((rfl : _ = M.1 m 14)) ?_
                              refine w_mulw ?_
                              intro z50 hz50 ez50
                              refine w_aln rfl ?_
                              refine w_cv (st := [.inl z50, .inr (.inr (some m))]) rfl hm rfl (Nat.le_of_ble_eq_true rfl) (fun kk h => h) (r_X12_peek (d := d) (p := q + k) (B := B) hm hb hn f1 (fs) (fh) fb (fun c => ?_) (fun c => by exfalso; omega))
                              · skip
                                refine w_addw ?_
                                intro z51 hz51 ez51
                                refine w_bp ?_
                                refine w_subw ?_
                                intro z52 hz52 ez52
                                refine w_pi hm rfl (by decide) rfl (fun q => by cases q) ?_
                                refine w_aln rfl ?_
                                refine w_dupr ?_
                                refine w_gi hm rfl (by decide) rfl ((hn_n (Or.inr (by decide))).trans (fk)) ?_
                                refine w_ic ?_
                                refine w_add ⟨by show (-2147483648 : Int) ≤ (k : Int) + 1; omega, by show (k : Int) + 1 < (2147483648 : Int); omega⟩ ?_
                                refine w_pi hm rfl (by decide) rfl (fun q => by cases q) ?_
                                refine w_aln rfl ?_
                                refine w_dupr ?_
                                refine w_gi hm rfl (by decide) rfl ((hn_n (Or.inr (by decide))).trans ((hn_n (Or.inr (by decide))).trans (fh))) ?_
                                refine w_ic ?_
                                refine w_add ⟨by show (-2147483648 : Int) ≤ ((q + k : Nat) : Int) + 1; omega, by show ((q + k : Nat) : Int) + 1 < (2147483648 : Int); omega⟩ ?_
                                refine w_pi hm rfl (by decide) rfl (fun q => by cases q) ?_
                                refine w_goto ?_
                                have en := rv_nl_n (q := q) (k := k) (rv_le_f l0)
                                have er : rv_rn B n (f + 1) (q + k) = rv_rn B n f (q + (k + 1)) := if_pos ⟨by omega, rv_an_d d1 d2⟩
                                exact ih (k + 1) 0 _ cb sb (by omega) (by omega) f1 ((hn_n (Or.inr (by decide))).trans ((hn_n (Or.inr (by decide))).trans ((hn_n (Or.inr (by decide))).trans (fs)))) ((hn_s).trans (by omega)) (((hn_n (Or.inr (by decide))).trans (hn_s)).trans (by omega)) ⟨by omega, a2, fun h h2 => by omega, fun h h2 => by omega, fun h h2 => by omega, fun h h2 => by omega⟩ (fun g => wz_sl.trans (by rw [hw8 (by omega)]; rfl)) (fun g g3 => by
                                  obtain ⟨u1, u2, u3, u4, u5, u6⟩ := hu (by omega) (by omega)
                                  have q1 := rv_wm ez50 ⟨by omega, by omega⟩
                                  have q2 := rv_wa ez51 ⟨by omega, by omega⟩
                                  have q3 := rv_ws ez52 ⟨by omega, by omega⟩
                                  have q4 : ((mj_p0 (mj_p0 (mj_p0 (mj_p1 M m 17 (((M.2.1 m 17) <<< ((Int32.ofInt 8).toInt64 &&& 63)) ||| ((Int32.ofInt (B (q + k))).toInt64))) m 14 z52) m 13 ((k : Int) + 1)) m 4 (((q + k : Nat) : Int) + 1))).1 m 14 = z52 := (hn_n (Or.inr (by decide))).trans ((hn_n (Or.inr (by decide))).trans (hn_s))
                                  rw [q4]
                                  refine ⟨?_, by omega, fun h => by omega, fun h => by omega, fun h => by omega, by omega⟩
                                  show _ = 10 * rv_nu B q k + B (q + k) - 48
                                  omega) (fun j => Eq.trans (congrArg rv_u8 ((hn_n (Or.inl ne)).trans ((hn_n (Or.inl ne)).trans ((hn_n (Or.inl ne)))))) (fb j)) (fun k' al M' g0 g1 g2 g3 g4 g5 g6 g7 g8 g9 => hK k' al M' (er.trans g0) g1 g2 g3 g4 g5 g6 (rv_o.tr (rv_o.tr (rv_o.tr (rv_o.tr rv_o.rf (rv_o.st (a := m) (j := 14) (by decide))) (rv_o.st (a := m) (j := 13) (by decide))) (rv_o.st (a := m) (j := 4) (by decide))) g7) g8 (fun a j g => (g9 a j g).trans (wz_nl (Decidable.not_and_iff_or_not.mp g))))
                      · skip
                        refine w_ic ?_
                        refine w_goto ?_
                        refine w_isn ?_
                        refine w_aln rfl ?_
                        refine w_gi hm rfl (by decide) rfl (fk) ?_
                        refine w_bp ?_
                        refine w_cmge (fun c53 => ?_) (fun c53 => ?_)
                        · skip
                          refine w_aln rfl ?_
                          refine w_gi hm rfl (by decide) rfl (fk) ?_
                          refine w_ic ?_
                          refine w_cmge (fun c54 => ?_) (fun c54 => ?_)
                          · skip
                            refine w_aln rfl ?_
                            refine w_dupr ?_
                            refine w_gi hm rfl (by decide) rfl (fk) ?_
                            refine w_ic ?_
                            refine w_add ⟨by show (-2147483648 : Int) ≤ (k : Int) + 1; omega, by show (k : Int) + 1 < (2147483648 : Int); omega⟩ ?_
                            refine w_pi hm rfl (by decide) rfl (fun q => by cases q) ?_
                            refine w_aln rfl ?_
                            refine w_dupr ?_
                            refine w_gi hm rfl (by decide) rfl ((hn_n (Or.inr (by decide))).trans (fh)) ?_
                            refine w_ic ?_
                            refine w_add ⟨by show (-2147483648 : Int) ≤ ((q + k : Nat) : Int) + 1; omega, by show ((q + k : Nat) : Int) + 1 < (2147483648 : Int); omega⟩ ?_
                            refine w_pi hm rfl (by decide) rfl (fun q => by cases q) ?_
                            refine w_goto ?_
                            have en := rv_nl_n (q := q) (k := k) (rv_le_f l0)
                            have er : rv_rn B n (f + 1) (q + k) = rv_rn B n f (q + (k + 1)) := if_pos ⟨by omega, rv_an_d d1 d2⟩
                            exact ih (k + 1) 1 _ cb sb (by omega) (by omega) f1 ((hn_n (Or.inr (by decide))).trans ((hn_n (Or.inr (by decide))).trans (fs))) ((hn_s).trans (by omega)) (((hn_n (Or.inr (by decide))).trans (hn_s)).trans (by omega)) ⟨by omega, a2, fun h h2 => by omega, fun h h2 => by omega, fun h h2 => by omega, fun h h2 => by omega⟩ (fun g => by exfalso; omega) (fun g g3 => by exfalso; omega) (fun j => Eq.trans (congrArg rv_u8 ((hn_n (Or.inl ne)).trans ((hn_n (Or.inl ne))))) (fb j)) (fun k' al M' g0 g1 g2 g3 g4 g5 g6 g7 g8 g9 => hK k' al M' (er.trans g0) g1 g2 g3 g4 g5 g6 (rv_o.tr (rv_o.tr (rv_o.tr rv_o.rf (rv_o.st (a := m) (j := 13) (by decide))) (rv_o.st (a := m) (j := 4) (by decide))) g7) g8 g9)
                          · skip
                            refine w_aln rfl ?_
                            refine w_bp ?_
                            refine w_aln rfl ?_
                            refine w_gi hm rfl (by decide) rfl ((rfl : _ = M.1 m 14)) ?_
                            refine w_mulw ?_
                            intro z55 hz55 ez55
                            refine w_aln rfl ?_
                            refine w_cv (st := [.inl z55, .inr (.inr (some m))]) rfl hm rfl (Nat.le_of_ble_eq_true rfl) (fun kk h => h) (r_X12_peek (d := d) (p := q + k) (B := B) hm hb hn f1 (fs) (fh) fb (fun c => ?_) (fun c => by exfalso; omega))
                            · skip
                              refine w_addw ?_
                              intro z56 hz56 ez56
                              refine w_bp ?_
                              refine w_subw ?_
                              intro z57 hz57 ez57
                              refine w_pi hm rfl (by decide) rfl (fun q => by cases q) ?_
                              refine w_aln rfl ?_
                              refine w_dupr ?_
                              refine w_gi hm rfl (by decide) rfl ((hn_n (Or.inr (by decide))).trans (fk)) ?_
                              refine w_ic ?_
                              refine w_add ⟨by show (-2147483648 : Int) ≤ (k : Int) + 1; omega, by show (k : Int) + 1 < (2147483648 : Int); omega⟩ ?_
                              refine w_pi hm rfl (by decide) rfl (fun q => by cases q) ?_
                              refine w_aln rfl ?_
                              refine w_dupr ?_
                              refine w_gi hm rfl (by decide) rfl ((hn_n (Or.inr (by decide))).trans ((hn_n (Or.inr (by decide))).trans (fh))) ?_
                              refine w_ic ?_
                              refine w_add ⟨by show (-2147483648 : Int) ≤ ((q + k : Nat) : Int) + 1; omega, by show ((q + k : Nat) : Int) + 1 < (2147483648 : Int); omega⟩ ?_
                              refine w_pi hm rfl (by decide) rfl (fun q => by cases q) ?_
                              refine w_goto ?_
                              have en := rv_nl_n (q := q) (k := k) (rv_le_f l0)
                              have er : rv_rn B n (f + 1) (q + k) = rv_rn B n f (q + (k + 1)) := if_pos ⟨by omega, rv_an_d d1 d2⟩
                              exact ih (k + 1) 1 _ cb sb (by omega) (by omega) f1 ((hn_n (Or.inr (by decide))).trans ((hn_n (Or.inr (by decide))).trans ((hn_n (Or.inr (by decide))).trans (fs)))) ((hn_s).trans (by omega)) (((hn_n (Or.inr (by decide))).trans (hn_s)).trans (by omega)) ⟨by omega, a2, fun h h2 => by omega, fun h h2 => by omega, fun h h2 => by omega, fun h h2 => by omega⟩ (fun g => by exfalso; omega) (fun g g3 => by
                                obtain ⟨u1, u2, u3, u4, u5, u6⟩ := hu (by omega) (by omega)
                                have q1 := rv_wm ez55 ⟨by omega, by omega⟩
                                have q2 := rv_wa ez56 ⟨by omega, by omega⟩
                                have q3 := rv_ws ez57 ⟨by omega, by omega⟩
                                have q4 : ((mj_p0 (mj_p0 (mj_p0 M m 14 z57) m 13 ((k : Int) + 1)) m 4 (((q + k : Nat) : Int) + 1))).1 m 14 = z57 := (hn_n (Or.inr (by decide))).trans ((hn_n (Or.inr (by decide))).trans (hn_s))
                                rw [q4]
                                refine ⟨?_, by omega, fun h => by omega, fun h => by omega, fun h => by omega, by omega⟩
                                show _ = 10 * rv_nu B q k + B (q + k) - 48
                                omega) (fun j => Eq.trans (congrArg rv_u8 ((hn_n (Or.inl ne)).trans ((hn_n (Or.inl ne)).trans ((hn_n (Or.inl ne)))))) (fb j)) (fun k' al M' g0 g1 g2 g3 g4 g5 g6 g7 g8 g9 => hK k' al M' (er.trans g0) g1 g2 g3 g4 g5 g6 (rv_o.tr (rv_o.tr (rv_o.tr (rv_o.tr rv_o.rf (rv_o.st (a := m) (j := 14) (by decide))) (rv_o.st (a := m) (j := 13) (by decide))) (rv_o.st (a := m) (j := 4) (by decide))) g7) g8 g9)
                        · skip
                          refine w_aln rfl ?_
                          refine w_aln rfl ?_
                          refine w_gl hm rfl (by decide) rfl ((rfl : _ = M.2.1 m 17)) ?_
                          refine w_bp ?_
                          refine w_lshl ?_
                          refine w_aln rfl ?_
                          refine w_cv (st := [.inr (.inl ((M.2.1 m 17) <<< ((Int32.ofInt 8).toInt64 &&& 63))), .inr (.inr (some m))]) rfl hm rfl (Nat.le_of_ble_eq_true rfl) (fun kk h => h) (r_X12_peek (d := d) (p := q + k) (B := B) hm hb hn f1 (fs) (fh) fb (fun c => ?_) (fun c => by exfalso; omega))
                          · skip
                            refine w_i2l ?_
                            refine w_lor ?_
                            refine w_pl hm rfl (by decide) rfl ?_
                            refine w_aln rfl ?_
                            refine w_gi hm rfl (by decide) rfl (fk) ?_
                            refine w_ic ?_
                            refine w_cmge (fun c58 => ?_) (fun c58 => ?_)
                            · skip
                              refine w_aln rfl ?_
                              refine w_dupr ?_
                              refine w_gi hm rfl (by decide) rfl (fk) ?_
                              refine w_ic ?_
                              refine w_add ⟨by show (-2147483648 : Int) ≤ (k : Int) + 1; omega, by show (k : Int) + 1 < (2147483648 : Int); omega⟩ ?_
                              refine w_pi hm rfl (by decide) rfl (fun q => by cases q) ?_
                              refine w_aln rfl ?_
                              refine w_dupr ?_
                              refine w_gi hm rfl (by decide) rfl ((hn_n (Or.inr (by decide))).trans (fh)) ?_
                              refine w_ic ?_
                              refine w_add ⟨by show (-2147483648 : Int) ≤ ((q + k : Nat) : Int) + 1; omega, by show ((q + k : Nat) : Int) + 1 < (2147483648 : Int); omega⟩ ?_
                              refine w_pi hm rfl (by decide) rfl (fun q => by cases q) ?_
                              refine w_goto ?_
                              have en := rv_nl_n (q := q) (k := k) (rv_le_f l0)
                              have er : rv_rn B n (f + 1) (q + k) = rv_rn B n f (q + (k + 1)) := if_pos ⟨by omega, rv_an_d d1 d2⟩
                              exact ih (k + 1) 1 _ cb sb (by omega) (by omega) f1 ((hn_n (Or.inr (by decide))).trans ((hn_n (Or.inr (by decide))).trans (fs))) ((hn_s).trans (by omega)) (((hn_n (Or.inr (by decide))).trans (hn_s)).trans (by omega)) ⟨by omega, a2, fun h h2 => by omega, fun h h2 => by omega, fun h h2 => by omega, fun h h2 => by omega⟩ (fun g => wz_sl.trans (by rw [hw8 (by omega)]; rfl)) (fun g g3 => by exfalso; omega) (fun j => Eq.trans (congrArg rv_u8 ((hn_n (Or.inl ne)).trans ((hn_n (Or.inl ne))))) (fb j)) (fun k' al M' g0 g1 g2 g3 g4 g5 g6 g7 g8 g9 => hK k' al M' (er.trans g0) g1 g2 g3 g4 g5 g6 (rv_o.tr (rv_o.tr (rv_o.tr rv_o.rf (rv_o.st (a := m) (j := 13) (by decide))) (rv_o.st (a := m) (j := 4) (by decide))) g7) g8 (fun a j g => (g9 a j g).trans (wz_nl (Decidable.not_and_iff_or_not.mp g))))
                            · skip
                              refine w_aln rfl ?_
                              refine w_bp ?_
                              refine w_aln rfl ?_
                              refine w_gi hm rfl (by decide) rfl ((rfl : _ = M.1 m 14)) ?_
                              refine w_mulw ?_
                              intro z59 hz59 ez59
                              refine w_aln rfl ?_
                              refine w_cv (st := [.inl z59, .inr (.inr (some m))]) rfl hm rfl (Nat.le_of_ble_eq_true rfl) (fun kk h => h) (r_X12_peek (d := d) (p := q + k) (B := B) hm hb hn f1 (fs) (fh) fb (fun c => ?_) (fun c => by exfalso; omega))
                              · skip
                                refine w_addw ?_
                                intro z60 hz60 ez60
                                refine w_bp ?_
                                refine w_subw ?_
                                intro z61 hz61 ez61
                                refine w_pi hm rfl (by decide) rfl (fun q => by cases q) ?_
                                refine w_aln rfl ?_
                                refine w_dupr ?_
                                refine w_gi hm rfl (by decide) rfl ((hn_n (Or.inr (by decide))).trans (fk)) ?_
                                refine w_ic ?_
                                refine w_add ⟨by show (-2147483648 : Int) ≤ (k : Int) + 1; omega, by show (k : Int) + 1 < (2147483648 : Int); omega⟩ ?_
                                refine w_pi hm rfl (by decide) rfl (fun q => by cases q) ?_
                                refine w_aln rfl ?_
                                refine w_dupr ?_
                                refine w_gi hm rfl (by decide) rfl ((hn_n (Or.inr (by decide))).trans ((hn_n (Or.inr (by decide))).trans (fh))) ?_
                                refine w_ic ?_
                                refine w_add ⟨by show (-2147483648 : Int) ≤ ((q + k : Nat) : Int) + 1; omega, by show ((q + k : Nat) : Int) + 1 < (2147483648 : Int); omega⟩ ?_
                                refine w_pi hm rfl (by decide) rfl (fun q => by cases q) ?_
                                refine w_goto ?_
                                have en := rv_nl_n (q := q) (k := k) (rv_le_f l0)
                                have er : rv_rn B n (f + 1) (q + k) = rv_rn B n f (q + (k + 1)) := if_pos ⟨by omega, rv_an_d d1 d2⟩
                                exact ih (k + 1) 1 _ cb sb (by omega) (by omega) f1 ((hn_n (Or.inr (by decide))).trans ((hn_n (Or.inr (by decide))).trans ((hn_n (Or.inr (by decide))).trans (fs)))) ((hn_s).trans (by omega)) (((hn_n (Or.inr (by decide))).trans (hn_s)).trans (by omega)) ⟨by omega, a2, fun h h2 => by omega, fun h h2 => by omega, fun h h2 => by omega, fun h h2 => by omega⟩ (fun g => wz_sl.trans (by rw [hw8 (by omega)]; rfl)) (fun g g3 => by
                                  obtain ⟨u1, u2, u3, u4, u5, u6⟩ := hu (by omega) (by omega)
                                  have q1 := rv_wm ez59 ⟨by omega, by omega⟩
                                  have q2 := rv_wa ez60 ⟨by omega, by omega⟩
                                  have q3 := rv_ws ez61 ⟨by omega, by omega⟩
                                  have q4 : ((mj_p0 (mj_p0 (mj_p0 (mj_p1 M m 17 (((M.2.1 m 17) <<< ((Int32.ofInt 8).toInt64 &&& 63)) ||| ((Int32.ofInt (B (q + k))).toInt64))) m 14 z61) m 13 ((k : Int) + 1)) m 4 (((q + k : Nat) : Int) + 1))).1 m 14 = z61 := (hn_n (Or.inr (by decide))).trans ((hn_n (Or.inr (by decide))).trans (hn_s))
                                  rw [q4]
                                  refine ⟨?_, by omega, fun h => by omega, fun h => by omega, fun h => by omega, by omega⟩
                                  show _ = 10 * rv_nu B q k + B (q + k) - 48
                                  omega) (fun j => Eq.trans (congrArg rv_u8 ((hn_n (Or.inl ne)).trans ((hn_n (Or.inl ne)).trans ((hn_n (Or.inl ne)))))) (fb j)) (fun k' al M' g0 g1 g2 g3 g4 g5 g6 g7 g8 g9 => hK k' al M' (er.trans g0) g1 g2 g3 g4 g5 g6 (rv_o.tr (rv_o.tr (rv_o.tr (rv_o.tr rv_o.rf (rv_o.st (a := m) (j := 14) (by decide))) (rv_o.st (a := m) (j := 13) (by decide))) (rv_o.st (a := m) (j := 4) (by decide))) g7) g8 (fun a j g => (g9 a j g).trans (wz_nl (Decidable.not_and_iff_or_not.mp g))))
            · skip
              refine w_ifeq (fun c62 => ?_) (fun c62 => ?_)
              · skip
                exact hK k al M (if_neg (fun h => rv_an_n l0 d0 h.2)) hq fh fk ha hw8 hu rv_o.rf rfl (fun _ _ _ => rfl)
              · exfalso; omega
    · skip
      refine w_cs (st := []) rfl (Nat.le_of_ble_eq_true rfl) (fun kk h => h) (r_X12_isSmall (d := d) (fun a b => by exfalso; omega) (fun a => ?_))
      · skip
        refine w_ifne (fun c63 => ?_) (fun c63 => ?_)
        · exfalso; omega
        · skip
          refine w_aln rfl ?_
          refine w_cv (st := []) rfl hm rfl (Nat.le_of_ble_eq_true rfl) (fun kk h => h) (r_X12_peek (d := d) (p := q + k) (B := B) hm hb hn f1 (fs) (fh) fb (fun c => by exfalso; omega) (fun c => ?_))
          · skip
            refine w_cs (st := []) rfl (Nat.le_of_ble_eq_true rfl) (fun kk h => h) (r_X12_isDigit (d := d) (fun a b => by exfalso; omega) (fun a => ?_))
            · skip
              refine w_ifeq (fun c64 => ?_) (fun c64 => ?_)
              · skip
                exact hK k al M (if_neg (by omega)) hq fh fk ha hw8 hu rv_o.rf rfl (fun _ _ _ => rfl)
              · exfalso; omega
