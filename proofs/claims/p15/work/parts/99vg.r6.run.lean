/-! ===== the class's tape: a run of letters and digits (laid by a program) ===== -/
theorem rv_le_t {v : Int} (h1 : 97 ≤ v) (h2 : v ≤ 122) : rv_le v = true := decide_eq_true ⟨h1, h2⟩
theorem rv_le_f {v : Int} (h : v < 97 ∨ 122 < v) : rv_le v = false := decide_eq_false (by omega)
theorem rv_di_t {v : Int} (h1 : 48 ≤ v) (h2 : v ≤ 57) : rv_di v = true := decide_eq_true ⟨h1, h2⟩
theorem rv_di_f {v : Int} (h : v < 48 ∨ 57 < v) : rv_di v = false := decide_eq_false (by omega)
theorem rv_an_l {v : Int} (h1 : 97 ≤ v) (h2 : v ≤ 122) : rv_an v = true := by unfold rv_an; rw [rv_le_t h1 h2]; rfl
theorem rv_an_d {v : Int} (h1 : 48 ≤ v) (h2 : v ≤ 57) : rv_an v = true := by unfold rv_an; rw [rv_di_t h1 h2]; exact Bool.or_true _
theorem rv_an_n {v : Int} (h1 : v < 97 ∨ 122 < v) (h2 : v < 48 ∨ 57 < v) : ¬ rv_an v = true := by unfold rv_an; rw [rv_le_f h1, rv_di_f h2]; decide
theorem rv_wm {x y z : Int} (h : z = (Int32.ofInt x * Int32.ofInt y).toInt) (hi : mj_in (x * y)) : z = x * y := by rw [h, ← Int32.ofInt_mul, mj_ti hi]
theorem rv_wa {x y z : Int} (h : z = (Int32.ofInt x + Int32.ofInt y).toInt) (hi : mj_in (x + y)) : z = x + y := by rw [h, ← Int32.ofInt_add, mj_ti hi]
theorem rv_ws {x y z : Int} (h : z = (Int32.ofInt x - Int32.ofInt y).toInt) (hi : mj_in (x - y)) : z = x - y := by rw [h, ← Int32.ofInt_sub, mj_ti hi]
theorem rv_nl_s {B : Nat → Int} {q k : Nat} (h : rv_le (B (q + k)) = true) : rv_nl B q (k + 1) = rv_nl B q k + 1 := by show rv_nl B q k + _ = _; rw [if_pos h]
theorem rv_nl_n {B : Nat → Int} {q k : Nat} (h : rv_le (B (q + k)) = false) : rv_nl B q (k + 1) = rv_nl B q k := by show rv_nl B q k + _ = _; rw [if_neg (by rw [h]; decide)]; rfl
/-- what is known of a number of k digits -/
def rv_nk (B : Nat → Int) (q k : Nat) (z : Int) : Prop := z = rv_nu B q k ∧ 0 ≤ z ∧ (k ≤ 0 → z ≤ 0) ∧ (k ≤ 1 → z ≤ 9) ∧ (k ≤ 2 → z ≤ 99) ∧ z ≤ 999
theorem r_run1 {d tp bc n q : Nat} {B : Nat → Int} {G : mj_G} {Q : mj_P} (ht : G tp = (1008, 0)) (hb : G bc = (38101, 940)) (hn : n ≤ 940) : ∀ (f k : Nat) (M : mj_M) (v3 : Option mj_V) (cb sb : Nat), n ≤ q + k + f → q + k ≤ n → M.2.2 tp 0 = some bc → M.1 tp 1 = (n : Int) → M.1 tp 11 = ((q + k : Nat) : Int) → (rv_nl B q k = k → M.2.1 tp 8 = rv_c5 B q k) → (rv_nl B q k = 0 → k ≤ 3 → rv_nk B q k (M.1 tp 6)) → (∀ k, rv_u8 (M.1 bc k) = B k) →
    (∀ (k' : Nat) (M' : mj_M) (v3 : Option mj_V), rv_rn B n f (q + k) = q + k' → q + k' ≤ n → M'.1 tp 11 = ((q + k' : Nat) : Int) → rv_o tp [6, 11] M M' → M'.2.2 = M.2.2 → (∀ a j, ¬ (a = tp ∧ j = 8) → M'.2.1 a j = M.2.1 a j) → (rv_nl B q k' = k' → M'.2.1 tp 8 = rv_c5 B q k') → (rv_nl B q k' = 0 → k' ≤ 3 → rv_nk B q k' (M'.1 tp 6)) → wz (d + 1) mt_X7_readRun.2.2.2.2.1 Q (mt_X7_readRun.2.2.2.2.1.drop 60) [some (.inr (.inr (some tp))), some (.inl ((rv_nl B q k' : Nat) : Int)), some (.inl ((k' - rv_nl B q k' : Nat) : Int)), v3] [] G M' cb sb) → wz (d + 1) mt_X7_readRun.2.2.2.2.1 Q (mt_X7_readRun.2.2.2.2.1.drop 4) [some (.inr (.inr (some tp))), some (.inl ((rv_nl B q k : Nat) : Int)), some (.inl ((k - rv_nl B q k : Nat) : Int)), v3] [] G M cb sb := by
  have ne : bc ≠ tp := hn_ne hb ht (by decide)
  intro f
  induction f with
  | zero =>
    intro k M v3 cb sb hf hq f0 fs fh hc hu fb hK
    refine w_aln rfl ?_
    refine w_gi ht rfl (by decide) rfl (fh) ?_
    refine w_aln rfl ?_
    refine w_gi ht rfl (by decide) rfl (fs) ?_
    refine w_cmge (fun c1 => ?_) (fun c1 => ?_)
    · skip
      exact hK k M v3 rfl hq fh rv_o.rf rfl (fun _ _ _ => rfl) hc hu
    · exfalso; omega
  | succ f ih =>
    intro k M v3 cb sb hf hq f0 fs fh hc hu fb hK
    have hl := rv_nl_le B q k
    have ub := rv_u8_in (M.1 bc (q + k))
    rw [fb (q + k)] at ub
    refine w_aln rfl ?_
    refine w_gi ht rfl (by decide) rfl (fh) ?_
    refine w_aln rfl ?_
    refine w_gi ht rfl (by decide) rfl (fs) ?_
    refine w_cmge (fun c1 => ?_) (fun c1 => ?_)
    · skip
      exact hK k M v3 (if_neg (by omega)) hq fh rv_o.rf rfl (fun _ _ _ => rfl) hc hu
    · skip
      refine w_aln rfl ?_
      refine w_aln rfl ?_
      refine w_gi ht rfl (by decide) rfl (fh) ?_
      refine w_cv (st := []) rfl ht rfl (Nat.le_of_ble_eq_true rfl) (fun kk h => h) (r_X7_valueAt (d := d) (p := q + k) (B := B) ht hb hn f0 (fs) fb (fun c => ?_) (fun c => by exfalso; omega))
      · skip
        refine w_cs (st := []) rfl (Nat.le_of_ble_eq_true rfl) (fun kk h => h) (r_X7_isLetter (d := d) (fun l1 l2 => ?_) (fun l0 => ?_))
        · skip
          refine w_ifne (fun c2 => ?_) (fun c2 => ?_)
          · skip
            refine w_aln rfl ?_
            refine w_aln rfl ?_
            refine w_gi ht rfl (by decide) rfl (fh) ?_
            refine w_cv (st := []) rfl ht rfl (Nat.le_of_ble_eq_true rfl) (fun kk h => h) (r_X7_valueAt (d := d) (p := q + k) (B := B) ht hb hn f0 (fs) fb (fun c => ?_) (fun c => by exfalso; omega))
            · skip
              refine w_isn ?_
              refine w_iln rfl ?_
              refine w_cs (st := []) rfl (Nat.le_of_ble_eq_true rfl) (fun kk h => h) (r_X7_isLetter (d := d) (fun a b => ?_) (fun a => by exfalso; omega))
              · skip
                refine w_ifeq (fun c3 => ?_) (fun c3 => ?_)
                · exfalso; omega
                · skip
                  refine w_ii rfl ⟨by show (-2147483648 : Int) ≤ ((rv_nl B q k : Nat) : Int) + 1; omega, by show ((rv_nl B q k : Nat) : Int) + 1 < (2147483648 : Int); omega⟩ ?_
                  refine w_aln rfl ?_
                  refine w_aln rfl ?_
                  refine w_gl ht rfl (by decide) rfl (rfl) ?_
                  refine w_ic ?_
                  refine w_lshl ?_
                  refine w_iln rfl ?_
                  refine w_bp ?_
                  refine w_sub ⟨by show (-2147483648 : Int) ≤ (B (q + k)) - 96; omega, by show (B (q + k)) - 96 < (2147483648 : Int); omega⟩ ?_
                  refine w_i2l ?_
                  refine w_lor ?_
                  refine w_pl ht rfl (by decide) rfl ?_
                  refine w_goto ?_
                  refine w_aln rfl ?_
                  refine w_dupr ?_
                  refine w_gi ht rfl (by decide) rfl (fh) ?_
                  refine w_ic ?_
                  refine w_add ⟨by show (-2147483648 : Int) ≤ ((q + k : Nat) : Int) + 1; omega, by show ((q + k : Nat) : Int) + 1 < (2147483648 : Int); omega⟩ ?_
                  refine w_pi ht rfl (by decide) rfl (fun q => by cases q) ?_
                  refine w_goto ?_
                  have en := rv_nl_s (q := q) (k := k) (rv_le_t l1 l2)
                  have e1 : ((rv_nl B q k : Nat) : Int) + 1 = ((rv_nl B q (k + 1) : Nat) : Int) := by omega
                  have e2 : ((k - rv_nl B q k : Nat) : Int) = ((k + 1 - rv_nl B q (k + 1) : Nat) : Int) := by omega
                  have er : rv_rn B n (f + 1) (q + k) = rv_rn B n f (q + (k + 1)) := if_pos ⟨by omega, rv_an_l l1 l2⟩
                  have ih1 := ih (k + 1) ((mj_p0 (mj_p1 M tp 8 (((M.2.1 tp 8) <<< ((Int32.ofInt 5).toInt64 &&& 63)) ||| ((Int32.ofInt ((B (q + k)) - 96)).toInt64))) tp 11 (((q + k : Nat) : Int) + 1))) (some (.inl (B (q + k)))) cb sb (by omega) (by omega) f0 ((hn_n (Or.inr (by decide))).trans (fs)) (hn_s.trans (by omega)) (fun g => by show (mj_p1 M tp 8 _).2.1 tp 8 = _; rw [wz_sl, hc (by omega)]; rfl) (fun g => by exfalso; omega) (fun j => by rw [show ((mj_p0 (mj_p1 M tp 8 (((M.2.1 tp 8) <<< ((Int32.ofInt 5).toInt64 &&& 63)) ||| ((Int32.ofInt ((B (q + k)) - 96)).toInt64))) tp 11 (((q + k : Nat) : Int) + 1))).1 bc j = M.1 bc j from (hn_n (Or.inl ne))]; exact fb j) (fun k' M' v3 g0 g1 g2 g3 g3b g4 g5 g6 => hK k' M' v3 (er.trans g0) g1 g2 (rv_o.tr (M' := (mj_p0 (mj_p1 M tp 8 (((M.2.1 tp 8) <<< ((Int32.ofInt 5).toInt64 &&& 63)) ||| ((Int32.ofInt ((B (q + k)) - 96)).toInt64))) tp 11 (((q + k : Nat) : Int) + 1))) (rv_o.st (a := tp) (j := 11) (by decide)) g3) g3b (fun a j g => (g4 a j g).trans (wz_nl (Decidable.not_and_iff_or_not.mp g))) g5 g6)
                  rw [← e1, ← e2] at ih1
                  exact ih1
          · exfalso; omega
        · skip
          refine w_ifne (fun c4 => ?_) (fun c4 => ?_)
          · exfalso; omega
          · skip
            refine w_aln rfl ?_
            refine w_aln rfl ?_
            refine w_gi ht rfl (by decide) rfl (fh) ?_
            refine w_cv (st := []) rfl ht rfl (Nat.le_of_ble_eq_true rfl) (fun kk h => h) (r_X7_valueAt (d := d) (p := q + k) (B := B) ht hb hn f0 (fs) fb (fun c => ?_) (fun c => by exfalso; omega))
            · skip
              refine w_cs (st := []) rfl (Nat.le_of_ble_eq_true rfl) (fun kk h => h) (r_X7_isDigit (d := d) (fun d1 d2 => ?_) (fun d0 => ?_))
              · skip
                refine w_ifeq (fun c5 => ?_) (fun c5 => ?_)
                · exfalso; omega
                · skip
                  refine w_aln rfl ?_
                  refine w_aln rfl ?_
                  refine w_gi ht rfl (by decide) rfl (fh) ?_
                  refine w_cv (st := []) rfl ht rfl (Nat.le_of_ble_eq_true rfl) (fun kk h => h) (r_X7_valueAt (d := d) (p := q + k) (B := B) ht hb hn f0 (fs) fb (fun c => ?_) (fun c => by exfalso; omega))
                  · skip
                    refine w_isn ?_
                    refine w_iln rfl ?_
                    refine w_cs (st := []) rfl (Nat.le_of_ble_eq_true rfl) (fun kk h => h) (r_X7_isLetter (d := d) (fun a b => by exfalso; omega) (fun a => ?_))
                    · skip
                      refine w_ifeq (fun c6 => ?_) (fun c6 => ?_)
                      · skip
                        refine w_ii rfl ⟨by show (-2147483648 : Int) ≤ ((k - rv_nl B q k : Nat) : Int) + 1; omega, by show ((k - rv_nl B q k : Nat) : Int) + 1 < (2147483648 : Int); omega⟩ ?_
                        refine w_aln rfl ?_
                        refine w_aln rfl ?_
                        refine w_gi ht rfl (by decide) rfl (rfl) ?_
                        refine w_bp ?_
                        refine w_mulw ?_
                        intro z7 hz7 ez7
                        refine w_iln rfl ?_
                        refine w_addw ?_
                        intro z8 hz8 ez8
                        refine w_bp ?_
                        refine w_subw ?_
                        intro z9 hz9 ez9
                        refine w_pi ht rfl (by decide) rfl (fun q => by cases q) ?_
                        refine w_aln rfl ?_
                        refine w_dupr ?_
                        refine w_gi ht rfl (by decide) rfl ((hn_n (Or.inr (by decide))).trans (fh)) ?_
                        refine w_ic ?_
                        refine w_add ⟨by show (-2147483648 : Int) ≤ ((q + k : Nat) : Int) + 1; omega, by show ((q + k : Nat) : Int) + 1 < (2147483648 : Int); omega⟩ ?_
                        refine w_pi ht rfl (by decide) rfl (fun q => by cases q) ?_
                        refine w_goto ?_
                        have en := rv_nl_n (q := q) (k := k) (rv_le_f l0)
                        have e1 : ((rv_nl B q k : Nat) : Int) = ((rv_nl B q (k + 1) : Nat) : Int) := by omega
                        have e2 : ((k - rv_nl B q k : Nat) : Int) + 1 = ((k + 1 - rv_nl B q (k + 1) : Nat) : Int) := by omega
                        have er : rv_rn B n (f + 1) (q + k) = rv_rn B n f (q + (k + 1)) := if_pos ⟨by omega, rv_an_d d1 d2⟩
                        have ih1 := ih (k + 1) ((mj_p0 (mj_p0 M tp 6 z9) tp 11 (((q + k : Nat) : Int) + 1))) (some (.inl (B (q + k)))) cb sb (by omega) (by omega) f0 ((hn_n (Or.inr (by decide))).trans ((hn_n (Or.inr (by decide))).trans (fs))) (hn_s.trans (by omega)) (fun g => by exfalso; omega) (fun g g3 => by
                          obtain ⟨u1, u2, u3, u4, u5, u6⟩ := hu (by omega) (by omega)
                          have q1 := rv_wm ez7 ⟨by omega, by omega⟩
                          have q2 := rv_wa ez8 ⟨by omega, by omega⟩
                          have q3 := rv_ws ez9 ⟨by omega, by omega⟩
                          have q4 : ((mj_p0 (mj_p0 M tp 6 z9) tp 11 (((q + k : Nat) : Int) + 1))).1 tp 6 = z9 := (hn_n (Or.inr (by decide))).trans hn_s
                          rw [q4]
                          refine ⟨?_, by omega, fun h => by omega, fun h => by omega, fun h => by omega, by omega⟩
                          show _ = 10 * rv_nu B q k + B (q + k) - 48
                          omega) (fun j => by rw [show ((mj_p0 (mj_p0 M tp 6 z9) tp 11 (((q + k : Nat) : Int) + 1))).1 bc j = M.1 bc j from (hn_n (Or.inl ne)).trans ((hn_n (Or.inl ne)))]; exact fb j) (fun k' M' v3 g0 g1 g2 g3 g3b g4 g5 g6 => hK k' M' v3 (er.trans g0) g1 g2 (rv_o.tr (M' := (mj_p0 (mj_p0 M tp 6 z9) tp 11 (((q + k : Nat) : Int) + 1))) ((rv_o.st (a := tp) (j := 6) (by decide)).tr (rv_o.st (a := tp) (j := 11) (by decide))) g3) g3b (fun a j g => g4 a j g) g5 g6)
                        rw [← e1, ← e2] at ih1
                        exact ih1
                      · exfalso; omega
              · skip
                refine w_ifeq (fun c10 => ?_) (fun c10 => ?_)
                · skip
                  exact hK k M v3 (if_neg (fun h => rv_an_n l0 d0 h.2)) hq fh rv_o.rf rfl (fun _ _ _ => rfl) hc hu
                · exfalso; omega
