/-! ===== the reference's next: blanks are skipped (laid by a program) ===== -/
theorem r_nxt1 {d m br n : Nat} {B : Nat → Int} {G : mj_G} {Q : mj_P} (hm : G m = (1012, 0)) (hb : G br = (50101, 940)) (hn : n ≤ 940) : ∀ (f p : Nat) (M : mj_M) (cb sb : Nat), n ≤ p + f → M.2.2 m 1 = some br → M.1 m 3 = (n : Int) → M.1 m 4 = (p : Int) → (∀ k, rv_u8 (M.1 br k) = B k) →
    (∀ M', M'.1 m 4 = ((rv_sk B n f p : Nat) : Int) → rv_o m [4] M M' → M'.2 = M.2 → wz (d + 1) mt_X12_next.2.2.2.2.1 Q (mt_X12_next.2.2.2.2.1.drop 15) [some (.inr (.inr (some m))), none, none, none] [] G M' cb sb) → wz (d + 1) mt_X12_next.2.2.2.2.1 Q mt_X12_next.2.2.2.2.1 [some (.inr (.inr (some m))), none, none, none] [] G M cb sb := by
  have ne : br ≠ m := hn_ne hb hm (by decide)
  intro f
  induction f with
  | zero =>
    intro p M cb sb hf f1 fs fh fb hK
    refine w_aln rfl ?_
    refine w_cv (st := []) rfl hm rfl (Nat.le_of_ble_eq_true rfl) (fun kk h => h) (r_X12_peek (d := d) (p := p) (B := B) hm hb hn f1 (fs) (fh) fb (fun c => by exfalso; omega) (fun c => ?_))
    · skip
      refine w_bp ?_
      refine w_cmeq (fun c1 => ?_) (fun c1 => ?_)
      · exfalso; omega
      · skip
        refine w_aln rfl ?_
        refine w_cv (st := []) rfl hm rfl (Nat.le_of_ble_eq_true rfl) (fun kk h => h) (r_X12_peek (d := d) (p := p) (B := B) hm hb hn f1 (fs) (fh) fb (fun c => by exfalso; omega) (fun c => ?_))
        · skip
          refine w_bp ?_
          refine w_cmne (fun c2 => ?_) (fun c2 => ?_)
          · skip
            exact hK M fh rv_o.rf rfl
          · exfalso; omega
  | succ f ih =>
    intro p M cb sb hf f1 fs fh fb hK
    refine w_aln rfl ?_
    refine w_cv (st := []) rfl hm rfl (Nat.le_of_ble_eq_true rfl) (fun kk h => h) (r_X12_peek (d := d) (p := p) (B := B) hm hb hn f1 (fs) (fh) fb (fun ci => ?_) (fun ci => ?_))
    · skip
      refine w_bp ?_
      refine w_cmeq (fun c1 => ?_) (fun c1 => ?_)
      · skip
        refine w_aln rfl ?_
        refine w_dupr ?_
        refine w_gi hm rfl (by decide) rfl (fh) ?_
        refine w_ic ?_
        refine w_add ⟨by show (-2147483648 : Int) ≤ (p : Int) + 1; omega, by show (p : Int) + 1 < (2147483648 : Int); omega⟩ ?_
        refine w_pi hm rfl (by decide) rfl (fun q => by cases q) ?_
        refine w_goto ?_
        refine ih (p + 1) _ cb sb (by omega) f1 ((hn_n (Or.inr (by decide))).trans fs) (hn_s.trans (by omega)) (fun k => Eq.trans (congrArg rv_u8 (hn_n (Or.inl ne))) (fb k)) (fun M' e1 e2 e3 => hK M' ?_ (rv_o.tr (rv_o.st (by decide)) e2) e3)
        rw [e1, show rv_sk B n (f + 1) p = rv_sk B n f (p + 1) from if_pos (by omega)]
      · skip
        refine w_aln rfl ?_
        refine w_cv (st := []) rfl hm rfl (Nat.le_of_ble_eq_true rfl) (fun kk h => h) (r_X12_peek (d := d) (p := p) (B := B) hm hb hn f1 (fs) (fh) fb (fun c => ?_) (fun c => by exfalso; omega))
        · skip
          refine w_bp ?_
          refine w_cmne (fun c2 => ?_) (fun c2 => ?_)
          · skip
            refine hK M ?_ rv_o.rf rfl
            rw [show rv_sk B n (f + 1) p = p from if_neg (by omega)]; exact fh
          · skip
            refine w_aln rfl ?_
            refine w_dupr ?_
            refine w_gi hm rfl (by decide) rfl (fh) ?_
            refine w_ic ?_
            refine w_add ⟨by show (-2147483648 : Int) ≤ (p : Int) + 1; omega, by show (p : Int) + 1 < (2147483648 : Int); omega⟩ ?_
            refine w_pi hm rfl (by decide) rfl (fun q => by cases q) ?_
            refine w_goto ?_
            refine ih (p + 1) _ cb sb (by omega) f1 ((hn_n (Or.inr (by decide))).trans fs) (hn_s.trans (by omega)) (fun k => Eq.trans (congrArg rv_u8 (hn_n (Or.inl ne))) (fb k)) (fun M' e1 e2 e3 => hK M' ?_ (rv_o.tr (rv_o.st (by decide)) e2) e3)
            rw [e1, show rv_sk B n (f + 1) p = rv_sk B n f (p + 1) from if_pos (by omega)]
    · skip
      refine w_bp ?_
      refine w_cmeq (fun c3 => ?_) (fun c3 => ?_)
      · exfalso; omega
      · skip
        refine w_aln rfl ?_
        refine w_cv (st := []) rfl hm rfl (Nat.le_of_ble_eq_true rfl) (fun kk h => h) (r_X12_peek (d := d) (p := p) (B := B) hm hb hn f1 (fs) (fh) fb (fun c => by exfalso; omega) (fun c => ?_))
        · skip
          refine w_bp ?_
          refine w_cmne (fun c4 => ?_) (fun c4 => ?_)
          · skip
            refine hK M ?_ rv_o.rf rfl
            rw [show rv_sk B n (f + 1) p = p from if_neg (by omega)]; exact fh
          · exfalso; omega
