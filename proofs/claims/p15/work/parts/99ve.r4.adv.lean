/-! ===== the class's tape: blanks are skipped (laid by a program) ===== -/
/-- nothing but slots ks of the cell a is changed among the ints -/
def rv_o (a : Nat) (ks : List Nat) (M M' : mj_M) : Prop := ∀ x k, ¬ (x = a ∧ k ∈ ks) → M'.1 x k = M.1 x k
theorem rv_o.rf {a : Nat} {ks : List Nat} {M : mj_M} : rv_o a ks M M := fun _ _ _ => rfl
theorem rv_o.tr {a : Nat} {ks : List Nat} {M M' M'' : mj_M} (h : rv_o a ks M M') (h' : rv_o a ks M' M'') : rv_o a ks M M'' := fun x k q => (h' x k q).trans (h x k q)
theorem rv_o.st {a j : Nat} {ks : List Nat} {M : mj_M} {z : Int} (hj : j ∈ ks) : rv_o a ks M (mj_p0 M a j z) := fun x k q => hn_n (Decidable.not_and_iff_or_not.mp (fun e => q ⟨e.1, by rw [e.2]; exact hj⟩))
theorem r_adv1 {d tp bc n e : Nat} {B : Nat → Int} {G : mj_G} {Q : mj_P} (ht : G tp = (1008, 0)) (hb : G bc = (38101, 940)) (hn : n ≤ 940) (he : e ≤ n) : ∀ (f p : Nat) (M : mj_M) (cb sb : Nat), e ≤ p + f → M.2.2 tp 0 = some bc → M.1 tp 1 = (n : Int) → M.1 tp 11 = (p : Int) → (∀ k, rv_u8 (M.1 bc k) = B k) →
    (∀ M', M'.1 tp 11 = ((rv_sk B e f p : Nat) : Int) → rv_o tp [11] M M' → M'.2 = M.2 → wz (d + 1) mt_X7_advance.2.2.2.2.1 Q (mt_X7_advance.2.2.2.2.1.drop 29) [some (.inr (.inr (some tp))), some (.inl (e : Int))] [] G M' cb sb) → wz (d + 1) mt_X7_advance.2.2.2.2.1 Q (mt_X7_advance.2.2.2.2.1.drop 6) [some (.inr (.inr (some tp))), some (.inl (e : Int))] [] G M cb sb := by
  have ne : bc ≠ tp := hn_ne hb ht (by decide)
  intro f
  induction f with
  | zero =>
    intro p M cb sb hf f0 fs fh fb hK
    refine w_aln rfl ?_
    refine w_gi ht rfl (by decide) rfl (fh) ?_
    refine w_iln rfl ?_
    refine w_cmge (fun c1 => ?_) (fun c1 => ?_)
    · skip
      exact hK M fh rv_o.rf rfl
    · exfalso; omega
  | succ f ih =>
    intro p M cb sb hf f0 fs fh fb hK
    refine w_aln rfl ?_
    refine w_gi ht rfl (by decide) rfl (fh) ?_
    refine w_iln rfl ?_
    refine w_cmge (fun c1 => ?_) (fun c1 => ?_)
    · skip
      refine hK M ?_ rv_o.rf rfl
      rw [show rv_sk B e (f + 1) p = p from if_neg (by omega)]; exact fh
    · skip
      refine w_aln rfl ?_
      refine w_aln rfl ?_
      refine w_gi ht rfl (by decide) rfl (fh) ?_
      refine w_cv (st := []) rfl ht rfl (Nat.le_of_ble_eq_true rfl) (fun kk h => h) (r_X7_valueAt (d := d) (B := B) ht hb hn f0 (fs) fb (fun c => ?_) (fun c => by exfalso; omega))
      · skip
        refine w_bp ?_
        refine w_cmeq (fun c2 => ?_) (fun c2 => ?_)
        · skip
          refine w_aln rfl ?_
          refine w_dupr ?_
          refine w_gi ht rfl (by decide) rfl (fh) ?_
          refine w_ic ?_
          refine w_add ⟨by show (-2147483648 : Int) ≤ (p : Int) + 1; omega, by show (p : Int) + 1 < (2147483648 : Int); omega⟩ ?_
          refine w_pi ht rfl (by decide) rfl (fun q => by cases q) ?_
          refine w_goto ?_
          refine ih (p + 1) _ cb sb (by omega) f0 ((hn_n (Or.inr (by decide))).trans fs) (hn_s.trans (by omega)) (fun k => by rw [show (mj_p0 M tp 11 ((p : Int) + 1)).1 bc k = M.1 bc k from hn_n (Or.inl ne)]; exact fb k) (fun M' e1 e2 e3 => hK M' ?_ (rv_o.st (by decide) |>.tr e2) e3)
          rw [e1, show rv_sk B e (f + 1) p = rv_sk B e f (p + 1) from if_pos (by omega)]
        · skip
          refine w_aln rfl ?_
          refine w_aln rfl ?_
          refine w_gi ht rfl (by decide) rfl (fh) ?_
          refine w_cv (st := []) rfl ht rfl (Nat.le_of_ble_eq_true rfl) (fun kk h => h) (r_X7_valueAt (d := d) (B := B) ht hb hn f0 (fs) fb (fun c => ?_) (fun c => by exfalso; omega))
          · skip
            refine w_bp ?_
            refine w_cmne (fun c3 => ?_) (fun c3 => ?_)
            · skip
              refine hK M ?_ rv_o.rf rfl
              rw [show rv_sk B e (f + 1) p = p from if_neg (by omega)]; exact fh
            · skip
              refine w_aln rfl ?_
              refine w_dupr ?_
              refine w_gi ht rfl (by decide) rfl (fh) ?_
              refine w_ic ?_
              refine w_add ⟨by show (-2147483648 : Int) ≤ (p : Int) + 1; omega, by show (p : Int) + 1 < (2147483648 : Int); omega⟩ ?_
              refine w_pi ht rfl (by decide) rfl (fun q => by cases q) ?_
              refine w_goto ?_
              refine ih (p + 1) _ cb sb (by omega) f0 ((hn_n (Or.inr (by decide))).trans fs) (hn_s.trans (by omega)) (fun k => by rw [show (mj_p0 M tp 11 ((p : Int) + 1)).1 bc k = M.1 bc k from hn_n (Or.inl ne)]; exact fb k) (fun M' e1 e2 e3 => hK M' ?_ (rv_o.st (by decide) |>.tr e2) e3)
              rw [e1, show rv_sk B e (f + 1) p = rv_sk B e f (p + 1) from if_pos (by omega)]
