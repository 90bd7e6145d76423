section
/-! ===== the class's tape: a run of letters and digits (laid by a program) ===== -/
theorem rv_le_t {v : Int} (h1 : 97 ≤ v) (h2 : v ≤ 122) : rv_le v = true := decide_eq_true ⟨h1, h2⟩
theorem rv_le_f {v : Int} (h : v < 97 ∨ 122 < v) : rv_le v = false := decide_eq_false (by omega)
theorem rv_di_t {v : Int} (h1 : 48 ≤ v) (h2 : v ≤ 57) : rv_di v = true := decide_eq_true ⟨h1, h2⟩
theorem rv_di_f {v : Int} (h : v < 48 ∨ 57 < v) : rv_di v = false := decide_eq_false (by omega)
theorem rv_an_l {v : Int} (h1 : 97 ≤ v) (h2 : v ≤ 122) : rv_an v = true := by unfold rv_an; rw [rv_le_t h1 h2]; rfl
theorem rv_an_d {v : Int} (h1 : 48 ≤ v) (h2 : v ≤ 57) : rv_an v = true := by unfold rv_an; rw [rv_di_t h1 h2]; exact Bool.or_true _
theorem rv_an_n {v : Int} (h1 : v < 97 ∨ 122 < v) (h2 : v < 48 ∨ 57 < v) : ¬ rv_an v = true := by unfold rv_an; rw [rv_le_f h1, rv_di_f h2]; decide
theorem rv_wm {x y z : Int} (h : z = (Int32.ofInt x * Int32.ofInt y).toInt) (hi : mj_in (x * y)) : z = x * y := by rw [h, ← Int32.ofInt_mul, mj_ti hi]
theorem rv_wa {x y z : Int} (h : z = (Int32.ofInt x + Int32.ofInt y).toInt) (hi : mj_in (x + y)) : z = x + y := by rw [h, ← Int32.ofInt_add, mj_ti hi]
theorem rv_ws {x y z : Int} (h : z = (Int32.ofInt x - Int32.ofInt y).toInt) (hi : mj_in (x - y)) : z = x - y := by rw [h, ← Int32.ofInt_sub, mj_ti hi]
theorem rv_nl_s {B : Nat → Int} {q k : Nat} (h : rv_le (B (q + k)) = true) : rv_nl B q (k + 1) = rv_nl B q k + 1 := by show rv_nl B q k + _ = _; rw [if_pos h]
theorem rv_nl_n {B : Nat → Int} {q k : Nat} (h : rv_le (B (q + k)) = false) : rv_nl B q (k + 1) = rv_nl B q k := by show rv_nl B q k + _ = _; rw [if_neg (by rw [h]; decide)]; rfl
/-- what is known of a number of k digits -/
def rv_nk (B : Nat → Int) (q k : Nat) (z : Int) : Prop := z = rv_nu B q k ∧ 0 ≤ z ∧ (k ≤ 0 → z ≤ 0) ∧ (k ≤ 1 → z ≤ 9) ∧ (k ≤ 2 → z ≤ 99) ∧ z ≤ 999
theorem r_run1 {d tp bc n q : Nat} {B : Nat → Int} {G : mj_G} {Q : mj_P} (ht : G tp = (1008, 0)) (hb : G bc = (38101, 940)) (hn : n ≤ 940) : ∀ (f k : Nat) (M : mj_M) (v3 : Option mj_V) (cb sb : Nat), n ≤ q + k + f → q + k ≤ n → M.2.2 tp 0 = some bc → M.1 tp 1 = (n : Int) → M.1 tp 11 = ((q + k : Nat) : Int) → (rv_nl B q k = k → M.2.1 tp 8 = rv_c5 B q k) → (rv_nl B q k = 0 → k ≤ 3 → rv_nk B q k (M.1 tp 6)) → (∀ k, rv_u8 (M.1 bc k) = B k) →
    (∀ (k' : Nat) (M' : mj_M) (v3 : Option mj_V), rv_rn B n f (q + k) = q + k' → q + k' ≤ n → M'.1 tp 11 = ((q + k' : Nat) : Int) → rv_o tp [6, 11] M M' → M'.2.2 = M.2.2 → (∀ a j, ¬ (a = tp ∧ j = 8) → M'.2.1 a j = M.2.1 a j) → (rv_nl B q k' = k' → M'.2.1 tp 8 = rv_c5 B q k') → (rv_nl B q k' = 0 → k' ≤ 3 → rv_nk B q k' (M'.1 tp 6)) → wz (d + 1) mt_X7_readRun.2.2.2.2.1 Q (mt_X7_readRun.2.2.2.2.1.drop 60) [some (.inr (.inr (some tp))), some (.inl ((rv_nl B q k' : Nat) : Int)), some (.inl ((k' - rv_nl B q k' : Nat) : Int)), v3] [] G M' cb sb) → wz (d + 1) mt_X7_readRun.2.2.2.2.1 Q (mt_X7_readRun.2.2.2.2.1.drop 4) [some (.inr (.inr (some tp))), some (.inl ((rv_nl B q k : Nat) : Int)), some (.inl ((k - rv_nl B q k : Nat) : Int)), v3] [] G M cb sb := by
  have ne : bc ≠ tp := hn_ne hb ht (by decide)
  intro f
  induction f with
  | zero =>
    intro k M v3 cb sb hf hq f0 fs fh hc hu fb hK
    refine w_aln rfl ?_
    refine w_gi ht rfl (by decide) rfl (fh) ?_
    refine w_aln rfl ?_
    refine w_gi ht rfl (by decide) rfl (fs) ?_
    refine w_cmge (fun c1 => ?_) (fun c1 => ?_)
    · skip
      exact hK k M v3 rfl hq fh rv_o.rf rfl (fun _ _ _ => rfl) hc hu
    · exfalso; omega
  | succ f ih =>
    intro k M v3 cb sb hf hq f0 fs fh hc hu fb hK
    have hl := rv_nl_le B q k
    have ub := rv_u8_in (M.1 bc (q + k))
    rw [fb (q + k)] at ub
    refine w_aln rfl ?_
    refine w_gi ht rfl (by decide) rfl (fh) ?_
    refine w_aln rfl ?_
    refine w_gi ht rfl (by decide) rfl (fs) ?_
    refine w_cmge (fun c1 => ?_) (fun c1 => ?_)
    · skip
      exact hK k M v3 (if_neg (by omega)) hq fh rv_o.rf rfl (fun _ _ _ => rfl) hc hu
    · skip
      refine w_aln rfl ?_
      refine w_aln rfl ?_
      refine w_gi ht rfl (by decide) rfl (fh) ?_
      refine w_cv (st := []) rfl ht rfl (Nat.le_of_ble_eq_true rfl) (fun kk h => h) (r_X7_valueAt (d := d) (p := q + k) (B := B) ht hb hn f0 (fs) fb (fun c => ?_) (fun c => by exfalso; omega))
      · skip
        refine w_cs (st := []) rfl (Nat.le_of_ble_eq_true rfl) (fun kk h => h) (r_X7_isLetter (d := d) (fun l1 l2 => ?_) (fun l0 => ?_))
        · skip
          refine w_ifne (fun c2 => ?_) (fun c2 => ?_)
          · skip
            refine w_aln rfl ?_
            refine w_aln rfl ?_
            refine w_gi ht rfl (by decide) rfl (fh) ?_
            refine w_cv (st := []) rfl ht rfl (Nat.le_of_ble_eq_true rfl) (fun kk h => h) (r_X7_valueAt (d := d) (p := q + k) (B := B) ht hb hn f0 (fs) fb (fun c => ?_) (fun c => by exfalso; omega))
            · skip
              refine w_isn ?_
              refine w_iln rfl ?_
              refine w_cs (st := []) rfl (Nat.le_of_ble_eq_true rfl) (fun kk h => h) (r_X7_isLetter (d := d) (fun a b => ?_) (fun a => by exfalso; omega))
              · skip
                refine w_ifeq (fun c3 => ?_) (fun c3 => ?_)
                · exfalso; omega
                · skip
                  refine w_ii rfl ⟨by show (-2147483648 : Int) ≤ ((rv_nl B q k : Nat) : Int) + 1; omega, by show ((rv_nl B q k : Nat) : Int) + 1 < (2147483648 : Int); omega⟩ ?_
                  refine w_aln rfl ?_
                  refine w_aln rfl ?_
                  refine w_gl ht rfl (by decide) rfl (rfl) ?_
                  refine w_ic ?_
                  refine w_lshl ?_
                  refine w_iln rfl ?_
                  refine w_bp ?_
                  refine w_sub ⟨by show (-2147483648 : Int) ≤ (B (q + k)) - 96; omega, by show (B (q + k)) - 96 < (2147483648 : Int); omega⟩ ?_
                  refine w_i2l ?_
                  refine w_lor ?_
                  refine w_pl ht rfl (by decide) rfl ?_
                  refine w_goto ?_
                  refine w_aln rfl ?_
                  refine w_dupr ?_
                  refine w_gi ht rfl (by decide) rfl (fh) ?_
                  refine w_ic ?_
                  refine w_add ⟨by show (-2147483648 : Int) ≤ ((q + k : Nat) : Int) + 1; omega, by show ((q + k : Nat) : Int) + 1 < (2147483648 : Int); omega⟩ ?_
                  refine w_pi ht rfl (by decide) rfl (fun q => by cases q) ?_
                  refine w_goto ?_
                  have en := rv_nl_s (q := q) (k := k) (rv_le_t l1 l2)
                  have e1 : ((rv_nl B q k : Nat) : Int) + 1 = ((rv_nl B q (k + 1) : Nat) : Int) := by omega
                  have e2 : ((k - rv_nl B q k : Nat) : Int) = ((k + 1 - rv_nl B q (k + 1) : Nat) : Int) := by omega
                  have er : rv_rn B n (f + 1) (q + k) = rv_rn B n f (q + (k + 1)) := if_pos ⟨by omega, rv_an_l l1 l2⟩
                  have ih1 := ih (k + 1) ((mj_p0 (mj_p1 M tp 8 (((M.2.1 tp 8) <<< ((Int32.ofInt 5).toInt64 &&& 63)) ||| ((Int32.ofInt ((B (q + k)) - 96)).toInt64))) tp 11 (((q + k : Nat) : Int) + 1))) (some (.inl (B (q + k)))) cb sb (by omega) (by omega) f0 ((hn_n (Or.inr (by decide))).trans (fs)) (hn_s.trans (by omega)) (fun g => by show (mj_p1 M tp 8 _).2.1 tp 8 = _; rw [wz_sl, hc (by omega)]; rfl) (fun g => by exfalso; omega) (fun j => by rw [show ((mj_p0 (mj_p1 M tp 8 (((M.2.1 tp 8) <<< ((Int32.ofInt 5).toInt64 &&& 63)) ||| ((Int32.ofInt ((B (q + k)) - 96)).toInt64))) tp 11 (((q + k : Nat) : Int) + 1))).1 bc j = M.1 bc j from (hn_n (Or.inl ne))]; exact fb j) (fun k' M' v3 g0 g1 g2 g3 g3b g4 g5 g6 => hK k' M' v3 (er.trans g0) g1 g2 (rv_o.tr (M' := (mj_p0 (mj_p1 M tp 8 (((M.2.1 tp 8) <<< ((Int32.ofInt 5).toInt64 &&& 63)) ||| ((Int32.ofInt ((B (q + k)) - 96)).toInt64))) tp 11 (((q + k : Nat) : Int) + 1))) (rv_o.st (a := tp) (j := 11) (by decide)) g3) g3b (fun a j g => (g4 a j g).trans (wz_nl (Decidable.not_and_iff_or_not.mp g))) g5 g6)
                  rw [← e1, ← e2] at ih1
                  exact ih1
          · exfalso; omega
        · skip
          refine w_ifne (fun c4 => ?_) (fun c4 => ?_)
          · exfalso; omega
          · skip
            refine w_aln rfl ?_
            refine w_aln rfl ?_
            refine w_gi ht rfl (by decide) rfl (fh) ?_
            refine w_cv (st := []) rfl ht rfl (Nat.le_of_ble_eq_true rfl) (fun kk h => h) (r_X7_valueAt (d := d) (p := q + k) (B := B) ht hb hn f0 (fs) fb (fun c => ?_) (fun c => by exfalso; omega))
            · skip
              refine w_cs (st := []) rfl (Nat.le_of_ble_eq_true rfl) (fun kk h => h) (r_X7_isDigit (d := d) (fun d1 d2 => ?_) (fun d0 => ?_))
              · skip
                refine w_ifeq (fun c5 => ?_) (fun c5 => ?_)
                · exfalso; omega
                · skip
                  refine w_aln rfl ?_
                  refine w_aln rfl ?_
                  refine w_gi ht rfl (by decide) rfl (fh) ?_
                  refine w_cv (st := []) rfl ht rfl (Nat.le_of_ble_eq_true rfl) (fun kk h => h) (r_X7_valueAt (d := d) (p := q + k) (B := B) ht hb hn f0 (fs) fb (fun c => ?_) (fun c => by exfalso; omega))
                  · skip
                    refine w_isn ?_
                    refine w_iln rfl ?_
                    refine w_cs (st := []) rfl (Nat.le_of_ble_eq_true rfl) (fun kk h => h) (r_X7_isLetter (d := d) (fun a b => by exfalso; omega) (fun a => ?_))
                    · skip
                      refine w_ifeq (fun c6 => ?_) (fun c6 => ?_)
                      · skip
                        refine w_ii rfl ⟨by show (-2147483648 : Int) ≤ ((k - rv_nl B q k : Nat) : Int) + 1; omega, by show ((k - rv_nl B q k : Nat) : Int) + 1 < (2147483648 : Int); omega⟩ ?_
                        refine w_aln rfl ?_
                        refine w_aln rfl ?_
                        refine w_gi ht rfl (by decide) rfl (rfl) ?_
                        refine w_bp ?_
                        refine w_mulw ?_
                        intro z7 hz7 ez7
                        refine w_iln rfl ?_
                        refine w_addw ?_
                        intro z8 hz8 ez8
                        refine w_bp ?_
                        refine w_subw ?_
                        intro z9 hz9 ez9
                        refine w_pi ht rfl (by decide) rfl (fun q => by cases q) ?_
                        refine w_aln rfl ?_
                        refine w_dupr ?_
                        refine w_gi ht rfl (by decide) rfl ((hn_n (Or.inr (by decide))).trans (fh)) ?_
                        refine w_ic ?_
                        refine w_add ⟨by show (-2147483648 : Int) ≤ ((q + k : Nat) : Int) + 1; omega, by show ((q + k : Nat) : Int) + 1 < (2147483648 : Int); omega⟩ ?_
                        refine w_pi ht rfl (by decide) rfl (fun q => by cases q) ?_
                        refine w_goto ?_
                        have en := rv_nl_n (q := q) (k := k) (rv_le_f l0)
                        have e1 : ((rv_nl B q k : Nat) : Int) = ((rv_nl B q (k + 1) : Nat) : Int) := by omega
                        have e2 : ((k - rv_nl B q k : Nat) : Int) + 1 = ((k + 1 - rv_nl B q (k + 1) : Nat) : Int) := by omega
                        have er : rv_rn B n (f + 1) (q + k) = rv_rn B n f (q + (k + 1)) := if_pos ⟨by omega, rv_an_d d1 d2⟩
                        have ih1 := ih (k + 1) ((mj_p0 (mj_p0 M tp 6 z9) tp 11 (((q + k : Nat) : Int) + 1))) (some (.inl (B (q + k)))) cb sb (by omega) (by omega) f0 ((hn_n (Or.inr (by decide))).trans ((hn_n (Or.inr (by decide))).trans (fs))) (hn_s.trans (by omega)) (fun g => by exfalso; omega) (fun g g3 => by
                          obtain ⟨u1, u2, u3, u4, u5, u6⟩ := hu (by omega) (by omega)
                          have q1 := rv_wm ez7 ⟨by omega, by omega⟩
                          have q2 := rv_wa ez8 ⟨by omega, by omega⟩
                          have q3 := rv_ws ez9 ⟨by omega, by omega⟩
                          have q4 : ((mj_p0 (mj_p0 M tp 6 z9) tp 11 (((q + k : Nat) : Int) + 1))).1 tp 6 = z9 := (hn_n (Or.inr (by decide))).trans hn_s
                          rw [q4]
                          refine ⟨?_, by omega, fun h => by omega, fun h => by omega, fun h => by omega, by omega⟩
                          show _ = 10 * rv_nu B q k + B (q + k) - 48
                          omega) (fun j => by rw [show ((mj_p0 (mj_p0 M tp 6 z9) tp 11 (((q + k : Nat) : Int) + 1))).1 bc j = M.1 bc j from (hn_n (Or.inl ne)).trans ((hn_n (Or.inl ne)))]; exact fb j) (fun k' M' v3 g0 g1 g2 g3 g3b g4 g5 g6 => hK k' M' v3 (er.trans g0) g1 g2 (rv_o.tr (M' := (mj_p0 (mj_p0 M tp 6 z9) tp 11 (((q + k : Nat) : Int) + 1))) ((rv_o.st (a := tp) (j := 6) (by decide)).tr (rv_o.st (a := tp) (j := 11) (by decide))) g3) g3b (fun a j g => g4 a j g) g5 g6)
                        rw [← e1, ← e2] at ih1
                        exact ih1
                      · exfalso; omega
              · skip
                refine w_ifeq (fun c10 => ?_) (fun c10 => ?_)
                · skip
                  exact hK k M v3 (if_neg (fun h => rv_an_n l0 d0 h.2)) hq fh rv_o.rf rfl (fun _ _ _ => rfl) hc hu
                · exfalso; omega
end
section
/-! ===== the class's readRun (laid by a program) ===== -/
theorem rv_o.up {a : Nat} {ks ks' : List Nat} {M M' : mj_M} (h : rv_o a ks M M') (hs : ∀ k, k ∈ ks → k ∈ ks') : rv_o a ks' M M' := fun x k q => h x k (fun e => q ⟨e.1, hs k e.2⟩)
/-- the word of a code: one of the known ones, or none -/
def rv_wd (G : mj_G) (c : Int64) (r : Option Nat) : Prop := (∃ j w, j < 24 ∧ mj_wc.getD j 0 = c ∧ G w = (900050 + 1000 * j, 0) ∧ r = some w) ∨ ((∀ j, j < 24 → mj_wc.getD j 0 ≠ c) ∧ r = none)
/-- what readRun leaves, of a run of k bytes from q on -/
def rv_run (G : mj_G) (B : Nat → Int) (tp q k : Nat) (M M' : mj_M) : Prop := M'.1 tp 11 = ((q + k : Nat) : Int) ∧ rv_o tp [4, 6, 11] M M' ∧ (∀ a j, ¬ (a = tp ∧ j = 8) → M'.2.1 a j = M.2.1 a j) ∧ (∀ a j, ¬ (a = tp ∧ j = 9) → M'.2.2 a j = M.2.2 a j) ∧
  ((rv_nl B q k = k ∧ k ≤ 8 ∧ M'.1 tp 4 = 1 ∧ M'.2.1 tp 8 = rv_c5 B q k ∧ rv_wd G (rv_c5 B q k) (M'.2.2 tp 9)) ∨ (¬ (rv_nl B q k = k ∧ k ≤ 8) ∧ rv_nl B q k = 0 ∧ k ≤ 3 ∧ M'.1 tp 4 = 2 ∧ rv_nk B q k (M'.1 tp 6) ∧ M'.2.2 tp 9 = M.2.2 tp 9) ∨ (¬ (rv_nl B q k = k ∧ k ≤ 8) ∧ ¬ (rv_nl B q k = 0 ∧ k ≤ 3) ∧ M'.1 tp 4 = 4 ∧ M'.2.2 tp 9 = M.2.2 tp 9))
theorem r_X7_readRun {d tp bc n q : Nat} {B : Nat → Int} {G : mj_G} {M : mj_M} {Q : mj_P} (ht : G tp = (1008, 0)) (hb : G bc = (38101, 940)) (hn : n ≤ 940) (hw : rv_wl G M) (hq : q ≤ n) (f0 : M.2.2 tp 0 = some bc) (fs : M.1 tp 1 = (n : Int)) (fh : M.1 tp 11 = (q : Int)) (f6 : M.1 tp 6 = 0) (f8 : M.2.1 tp 8 = 0) (fb : ∀ k, rv_u8 (M.1 bc k) = B k) (hQ : ∀ k M', rv_rn B n (n - q) q = q + k → q + k ≤ n → rv_run G B tp q k M M' → Q none G M') : mj_R mj_tab (d + 2) 82 [.inr (.inr (some tp))] G M Q := by
  refine ⟨Nat.le_of_ble_eq_true rfl, ?_⟩
  show wz (d + 1) mt_X7_readRun.2.2.2.2.1 Q mt_X7_readRun.2.2.2.2.1 [some (.inr (.inr (some tp))), none, none, none] [] G M _ _
  refine w_ic ?_
  refine w_isn ?_
  refine w_ic ?_
  refine w_isn ?_
  refine r_run1 (q := q) (B := B) ht hb hn (n - q) 0 M none _ _ (by omega) (by omega) f0 fs fh (fun _ => f8) (fun _ _ => ⟨f6, by omega, fun _ => by omega, fun _ => by omega, fun _ => by omega, by omega⟩) fb (fun k M1 v3 g0 gn g2 g3 g3b g4 g5 g6 => ?_)
  have hl := rv_nl_le B q k
  have hw1 : rv_wl G M1 := by unfold rv_wl; rw [g3b]; exact hw
  have gr : ∀ a j, M1.2.2 a j = M.2.2 a j := fun a j => by rw [g3b]
  refine w_aln rfl ?_
  refine w_ic ?_
  refine w_pi ht rfl (by decide) rfl (fun q => by cases q) ?_
  refine w_iln rfl ?_
  refine w_ifne (fun c1 => ?_) (fun c1 => ?_)
  · skip
    refine w_iln rfl ?_
    refine w_ifne (fun c2 => ?_) (fun c2 => ?_)
    · skip
      exact w_ret (hQ k ((mj_p0 M1 tp 4 4)) g0 gn ⟨(hn_n (Or.inr (by decide))).trans (g2), (rv_o.tr (g3.up (by decide)) (rv_o.st (a := tp) (j := 4) (by decide))), g4, (fun a j _ => gr a j), Or.inr (Or.inr ⟨by omega, by omega, hn_s, gr tp 9⟩)⟩)
    · skip
      refine w_iln rfl ?_
      refine w_ic ?_
      refine w_cmgt (fun c3 => ?_) (fun c3 => ?_)
      · skip
        exact w_ret (hQ k ((mj_p0 M1 tp 4 4)) g0 gn ⟨(hn_n (Or.inr (by decide))).trans (g2), (rv_o.tr (g3.up (by decide)) (rv_o.st (a := tp) (j := 4) (by decide))), g4, (fun a j _ => gr a j), Or.inr (Or.inr ⟨by omega, by omega, hn_s, gr tp 9⟩)⟩)
      · skip
        refine w_aln rfl ?_
        refine w_ic ?_
        refine w_pi ht rfl (by decide) rfl (fun q => by cases q) ?_
        exact w_ret (hQ k ((mj_p0 (mj_p0 M1 tp 4 4) tp 4 2)) g0 gn ⟨(hn_n (Or.inr (by decide))).trans ((hn_n (Or.inr (by decide))).trans (g2)), (rv_o.tr (rv_o.tr (g3.up (by decide)) (rv_o.st (a := tp) (j := 4) (by decide))) (rv_o.st (a := tp) (j := 4) (by decide))), g4, (fun a j _ => gr a j), Or.inr (Or.inl ⟨by omega, by omega, by omega, hn_s, by rw [show ((mj_p0 (mj_p0 M1 tp 4 4) tp 4 2)).1 tp 6 = M1.1 tp 6 from (hn_n (Or.inr (by decide))).trans ((hn_n (Or.inr (by decide))))]; exact g6 (by omega) (by omega), gr tp 9⟩)⟩)
  · skip
    refine w_iln rfl ?_
    refine w_bp ?_
    refine w_cmgt (fun c4 => ?_) (fun c4 => ?_)
    · skip
      refine w_iln rfl ?_
      refine w_ifne (fun c5 => ?_) (fun c5 => ?_)
      · skip
        exact w_ret (hQ k ((mj_p0 M1 tp 4 4)) g0 gn ⟨(hn_n (Or.inr (by decide))).trans (g2), (rv_o.tr (g3.up (by decide)) (rv_o.st (a := tp) (j := 4) (by decide))), g4, (fun a j _ => gr a j), Or.inr (Or.inr ⟨by omega, by omega, hn_s, gr tp 9⟩)⟩)
      · skip
        refine w_iln rfl ?_
        refine w_ic ?_
        refine w_cmgt (fun c6 => ?_) (fun c6 => ?_)
        · skip
          exact w_ret (hQ k ((mj_p0 M1 tp 4 4)) g0 gn ⟨(hn_n (Or.inr (by decide))).trans (g2), (rv_o.tr (g3.up (by decide)) (rv_o.st (a := tp) (j := 4) (by decide))), g4, (fun a j _ => gr a j), Or.inr (Or.inr ⟨by omega, by omega, hn_s, gr tp 9⟩)⟩)
        · skip
          refine w_aln rfl ?_
          refine w_ic ?_
          refine w_pi ht rfl (by decide) rfl (fun q => by cases q) ?_
          exact w_ret (hQ k ((mj_p0 (mj_p0 M1 tp 4 4) tp 4 2)) g0 gn ⟨(hn_n (Or.inr (by decide))).trans ((hn_n (Or.inr (by decide))).trans (g2)), (rv_o.tr (rv_o.tr (g3.up (by decide)) (rv_o.st (a := tp) (j := 4) (by decide))) (rv_o.st (a := tp) (j := 4) (by decide))), g4, (fun a j _ => gr a j), Or.inr (Or.inl ⟨by omega, by omega, by omega, hn_s, by rw [show ((mj_p0 (mj_p0 M1 tp 4 4) tp 4 2)).1 tp 6 = M1.1 tp 6 from (hn_n (Or.inr (by decide))).trans ((hn_n (Or.inr (by decide))))]; exact g6 (by omega) (by omega), gr tp 9⟩)⟩)
    · skip
      refine w_aln rfl ?_
      refine w_ic ?_
      refine w_pi ht rfl (by decide) rfl (fun q => by cases q) ?_
      refine w_aln rfl ?_
      refine w_aln rfl ?_
      refine w_gl ht rfl (by decide) rfl (rfl) ?_
      refine w_cs (st := [.inr (.inr (some tp))]) rfl (Nat.le_of_ble_eq_true rfl) (fun kk h => h) (r_X9_find (d := d) hw1 (fun j w j1 j2 j3 => ?_) (fun j0 => ?_))
      · skip
        refine w_pr ht rfl (by decide) rfl ?_
        refine w_goto ?_
        exact w_ret (hQ k ((mj_p2 (mj_p0 (mj_p0 M1 tp 4 4) tp 4 1) tp 9 (some w))) g0 gn ⟨(hn_n (Or.inr (by decide))).trans ((hn_n (Or.inr (by decide))).trans (g2)), (rv_o.tr (rv_o.tr (g3.up (by decide)) (rv_o.st (a := tp) (j := 4) (by decide))) (rv_o.st (a := tp) (j := 4) (by decide))), g4, (fun a j g => (wz_nr (Decidable.not_and_iff_or_not.mp g)).trans (gr a j)), Or.inl ⟨by omega, by omega, hn_s, g5 (by omega), Or.inl ⟨j, w, j1, j2.trans (g5 (by omega)), j3, wz_sr⟩⟩⟩)
      · skip
        refine w_pr ht rfl (by decide) rfl ?_
        refine w_goto ?_
        exact w_ret (hQ k ((mj_p2 (mj_p0 (mj_p0 M1 tp 4 4) tp 4 1) tp 9 none)) g0 gn ⟨(hn_n (Or.inr (by decide))).trans ((hn_n (Or.inr (by decide))).trans (g2)), (rv_o.tr (rv_o.tr (g3.up (by decide)) (rv_o.st (a := tp) (j := 4) (by decide))) (rv_o.st (a := tp) (j := 4) (by decide))), g4, (fun a j g => (wz_nr (Decidable.not_and_iff_or_not.mp g)).trans (gr a j)), Or.inl ⟨by omega, by omega, hn_s, g5 (by omega), Or.inr ⟨fun j q h => j0 j q (h.trans (g5 (by omega)).symm), wz_sr⟩⟩⟩)
end
section
/-! ===== the class's advance (laid by a program) ===== -/
theorem rv_wl.p2 {G : mj_G} {M : mj_M} {tp j : Nat} {z : Option Nat} (h : rv_wl G M) (ht : G tp = (1008, 0)) : rv_wl G (mj_p2 M tp j z) := fun a ha k hk => by
  obtain ⟨w, w1, w2⟩ := h a ha k hk
  exact ⟨w, (wz_nr (Or.inl (fun e => by rw [e, ht] at ha; cases ha))).trans w1, w2⟩
/-- the token that a run of k bytes from q on is -/
def rv_rk (G : mj_G) (B : Nat → Int) (tp q k : Nat) (M' : mj_M) : Prop := (rv_nl B q k = k ∧ k ≤ 8 ∧ M'.1 tp 4 = 1 ∧ M'.2.1 tp 8 = rv_c5 B q k ∧ rv_wd G (rv_c5 B q k) (M'.2.2 tp 9)) ∨ (¬ (rv_nl B q k = k ∧ k ≤ 8) ∧ rv_nl B q k = 0 ∧ k ≤ 3 ∧ M'.1 tp 4 = 2 ∧ rv_nk B q k (M'.1 tp 6) ∧ M'.2.2 tp 9 = none) ∨ (¬ (rv_nl B q k = k ∧ k ≤ 8) ∧ ¬ (rv_nl B q k = 0 ∧ k ≤ 3) ∧ M'.1 tp 4 = 4 ∧ M'.2.2 tp 9 = none)
/-- what advance leaves, from p on, with n bytes of which e are read -/
def rv_adv (G : mj_G) (B : Nat → Int) (n e tp p q : Nat) (M M' : mj_M) : Prop := rv_o tp [4, 5, 6, 7, 11] M M' ∧ (∀ a j, ¬ (a = tp ∧ j = 8) → M'.2.1 a j = M.2.1 a j) ∧ (∀ a j, ¬ (a = tp ∧ j = 9) → M'.2.2 a j = M.2.2 a j) ∧
  ((e ≤ q ∧ M'.1 tp 4 = 0 ∧ M'.1 tp 5 = (e : Int) ∧ M'.1 tp 11 = (q : Int) ∧ M'.2.2 tp 9 = none) ∨ (q < e ∧ rv_an (B q) = true ∧ M'.1 tp 5 = (q : Int) ∧ ∃ k, rv_rn B n (n - q) q = q + k ∧ q + k ≤ n ∧ M'.1 tp 11 = ((q + k : Nat) : Int) ∧ rv_rk G B tp q k M') ∨ (q < e ∧ ¬ rv_an (B q) = true ∧ M'.1 tp 5 = (q : Int) ∧ M'.1 tp 4 = 3 ∧ M'.1 tp 7 = B q ∧ M'.1 tp 11 = ((q + 1 : Nat) : Int) ∧ M'.2.2 tp 9 = none))
theorem r_X7_advance {d tp bc n lim p : Nat} {B : Nat → Int} {G : mj_G} {M : mj_M} {Q : mj_P} (ht : G tp = (1008, 0)) (hb : G bc = (38101, 940)) (hn : n ≤ 940) (hlim : lim ≤ 940) (hw : rv_wl G M) (hp : p ≤ n) (f0 : M.2.2 tp 0 = some bc) (fs : M.1 tp 1 = (n : Int)) (fm : M.1 tp 10 = (lim : Int)) (fh : M.1 tp 11 = (p : Int)) (fb : ∀ k, rv_u8 (M.1 bc k) = B k) (hQ : ∀ M', rv_adv G B n (min n lim) tp p (rv_sk B (min n lim) (min n lim - p) p) M M' → Q none G M') : mj_R mj_tab (d + 3) 69 [.inr (.inr (some tp))] G M Q := by
  have ne : bc ≠ tp := hn_ne hb ht (by decide)
  refine ⟨Nat.le_of_ble_eq_true rfl, ?_⟩
  show wz (d + 2) mt_X7_advance.2.2.2.2.1 Q mt_X7_advance.2.2.2.2.1 [some (.inr (.inr (some tp))), none] [] G M _ _
  refine w_aln rfl ?_
  refine w_gi ht rfl (by decide) rfl fs ?_
  refine w_aln rfl ?_
  refine w_gi ht rfl (by decide) rfl fm ?_
  refine w_min (Nat.le_of_ble_eq_true rfl) (fun z m1 m2 => ?_)
  have ez : z = ((min n lim : Nat) : Int) := by
    by_cases c : (lim : Int) < (n : Int)
    · rw [m1 c]; omega
    · rw [m2 c]; omega
  subst ez
  refine w_isn ?_
  generalize he : min n lim = e at *
  have hen : e ≤ n := by omega
  refine r_adv1 (d := d + 1) (e := e) (B := B) ht hb hn hen (e - p) p M _ _ (by omega) f0 fs fh fb (fun M1 g1 g2 g3 => ?_)
  generalize hq : rv_sk B e (e - p) p = q at *
  have g22 : ∀ a j, M1.2.2 a j = M.2.2 a j := fun a j => by rw [g3]
  have g21 : ∀ a j, M1.2.1 a j = M.2.1 a j := fun a j => by rw [g3]
  have f01 : M1.2.2 tp 0 = some bc := (g22 tp 0).trans f0
  have fs1 : M1.1 tp 1 = (n : Int) := (g2 tp 1 (by rintro ⟨-, h⟩; revert h; decide)).trans fs
  have fb1 : ∀ k, rv_u8 (M1.1 bc k) = B k := fun k => by rw [g2 bc k (fun h => ne h.1)]; exact fb k
  have hw1 : rv_wl G M1 := by unfold rv_wl; rw [g3]; exact hw
  have o1 : rv_o tp [4, 5, 6, 7, 11] M M1 := g2.up (by decide)
  refine w_aln rfl ?_
  refine w_nu ?_
  refine w_pr ht rfl (by decide) rfl ?_
  refine w_aln rfl ?_
  refine w_lc ?_
  refine w_pl ht rfl (by decide) rfl ?_
  refine w_aln rfl ?_
  refine w_ic ?_
  refine w_pi ht rfl (by decide) rfl (fun q => by cases q) ?_
  refine w_aln rfl ?_
  refine w_ic ?_
  refine w_pi ht rfl (by decide) rfl (fun q => by cases q) ?_
  refine w_aln rfl ?_
  refine w_gi ht rfl (by decide) rfl ((hn_n (Or.inr (by decide))).trans ((hn_n (Or.inr (by decide))).trans (g1))) ?_
  refine w_iln rfl ?_
  refine w_cmlt (fun c1 => ?_) (fun c1 => ?_)
  · skip
    refine w_aln rfl ?_
    refine w_aln rfl ?_
    refine w_gi ht rfl (by decide) rfl ((hn_n (Or.inr (by decide))).trans ((hn_n (Or.inr (by decide))).trans (g1))) ?_
    refine w_pi ht rfl (by decide) rfl (fun q => by cases q) ?_
    refine w_aln rfl ?_
    refine w_aln rfl ?_
    refine w_gi ht rfl (by decide) rfl ((hn_n (Or.inr (by decide))).trans ((hn_n (Or.inr (by decide))).trans ((hn_n (Or.inr (by decide))).trans (g1)))) ?_
    refine w_cv (st := []) rfl ht rfl (Nat.le_of_ble_eq_true rfl) (fun kk h => h) (r_X7_valueAt (d := d + 1) (p := q) (B := B) ht hb hn ((wz_nr (Or.inr (by decide))).trans (f01)) ((hn_n (Or.inr (by decide))).trans ((hn_n (Or.inr (by decide))).trans ((hn_n (Or.inr (by decide))).trans (fs1)))) (fun j => Eq.trans (congrArg rv_u8 ((hn_n (Or.inl ne)).trans ((hn_n (Or.inl ne)).trans ((hn_n (Or.inl ne)))))) (fb1 j)) (fun c => ?_) (fun c => by exfalso; omega))
    · skip
      refine w_cs (st := []) rfl (Nat.le_of_ble_eq_true rfl) (fun kk h => h) (r_X7_isLetter (d := d + 1) (fun l1 l2 => ?_) (fun l0 => ?_))
      · skip
        refine w_ifne (fun c2 => ?_) (fun c2 => ?_)
        · skip
          refine w_aln rfl ?_
          refine w_cv (st := []) rfl ht rfl (Nat.le_of_ble_eq_true rfl) (fun kk h => h) (r_X7_readRun (d := d) (q := q) (B := B) ht hb hn (hw1.p2 ht) (by omega) ((wz_nr (Or.inr (by decide))).trans (f01)) ((hn_n (Or.inr (by decide))).trans ((hn_n (Or.inr (by decide))).trans ((hn_n (Or.inr (by decide))).trans (fs1)))) ((hn_n (Or.inr (by decide))).trans ((hn_n (Or.inr (by decide))).trans ((hn_n (Or.inr (by decide))).trans (g1)))) ((hn_n (Or.inr (by decide))).trans ((hn_n (Or.inr (by decide))).trans (hn_s))) wz_sl (fun j => Eq.trans (congrArg rv_u8 ((hn_n (Or.inl ne)).trans ((hn_n (Or.inl ne)).trans ((hn_n (Or.inl ne)))))) (fb1 j)) (fun k M2 r0 rn r => ?_))
          · skip
            refine w_goto ?_
            obtain ⟨r1, r2, r3, r4, r5⟩ := r
            refine w_ret (hQ M2 ⟨rv_o.tr (rv_o.tr (rv_o.tr (rv_o.tr o1 (rv_o.st (a := tp) (j := 6) (by decide))) (rv_o.st (a := tp) (j := 7) (by decide))) (rv_o.st (a := tp) (j := 5) (by decide))) (r2.up (by decide)), fun a j g => (r3 a j g).trans ((fun a j g => (wz_nl (Decidable.not_and_iff_or_not.mp g)).trans (g21 a j)) a j g), fun a j g => (r4 a j g).trans ((fun a j g => (wz_nr (Decidable.not_and_iff_or_not.mp g)).trans (g22 a j)) a j g), Or.inr (Or.inl ⟨by omega, rv_an_l l1 l2, (r2 tp 5 (by rintro ⟨-, h⟩; revert h; decide)).trans (hn_s), k, r0, rn, r1, ?_⟩)⟩)
            rcases r5 with r5 | ⟨u1, u2, u3, u4, u5, u6⟩ | ⟨u1, u2, u3, u4⟩
            · exact Or.inl r5
            · exact Or.inr (Or.inl ⟨u1, u2, u3, u4, u5, u6.trans wz_sr⟩)
            · exact Or.inr (Or.inr ⟨u1, u2, u3, u4.trans wz_sr⟩)
        · exfalso; omega
      · skip
        refine w_ifne (fun c3 => ?_) (fun c3 => ?_)
        · exfalso; omega
        · skip
          refine w_aln rfl ?_
          refine w_aln rfl ?_
          refine w_gi ht rfl (by decide) rfl ((hn_n (Or.inr (by decide))).trans ((hn_n (Or.inr (by decide))).trans ((hn_n (Or.inr (by decide))).trans (g1)))) ?_
          refine w_cv (st := []) rfl ht rfl (Nat.le_of_ble_eq_true rfl) (fun kk h => h) (r_X7_valueAt (d := d + 1) (p := q) (B := B) ht hb hn ((wz_nr (Or.inr (by decide))).trans (f01)) ((hn_n (Or.inr (by decide))).trans ((hn_n (Or.inr (by decide))).trans ((hn_n (Or.inr (by decide))).trans (fs1)))) (fun j => Eq.trans (congrArg rv_u8 ((hn_n (Or.inl ne)).trans ((hn_n (Or.inl ne)).trans ((hn_n (Or.inl ne)))))) (fb1 j)) (fun c => ?_) (fun c => by exfalso; omega))
          · skip
            refine w_cs (st := []) rfl (Nat.le_of_ble_eq_true rfl) (fun kk h => h) (r_X7_isDigit (d := d + 1) (fun d1 d2 => ?_) (fun d0 => ?_))
            · skip
              refine w_ifeq (fun c4 => ?_) (fun c4 => ?_)
              · exfalso; omega
              · skip
                refine w_aln rfl ?_
                refine w_cv (st := []) rfl ht rfl (Nat.le_of_ble_eq_true rfl) (fun kk h => h) (r_X7_readRun (d := d) (q := q) (B := B) ht hb hn (hw1.p2 ht) (by omega) ((wz_nr (Or.inr (by decide))).trans (f01)) ((hn_n (Or.inr (by decide))).trans ((hn_n (Or.inr (by decide))).trans ((hn_n (Or.inr (by decide))).trans (fs1)))) ((hn_n (Or.inr (by decide))).trans ((hn_n (Or.inr (by decide))).trans ((hn_n (Or.inr (by decide))).trans (g1)))) ((hn_n (Or.inr (by decide))).trans ((hn_n (Or.inr (by decide))).trans (hn_s))) wz_sl (fun j => Eq.trans (congrArg rv_u8 ((hn_n (Or.inl ne)).trans ((hn_n (Or.inl ne)).trans ((hn_n (Or.inl ne)))))) (fb1 j)) (fun k M2 r0 rn r => ?_))
                · skip
                  refine w_goto ?_
                  obtain ⟨r1, r2, r3, r4, r5⟩ := r
                  refine w_ret (hQ M2 ⟨rv_o.tr (rv_o.tr (rv_o.tr (rv_o.tr o1 (rv_o.st (a := tp) (j := 6) (by decide))) (rv_o.st (a := tp) (j := 7) (by decide))) (rv_o.st (a := tp) (j := 5) (by decide))) (r2.up (by decide)), fun a j g => (r3 a j g).trans ((fun a j g => (wz_nl (Decidable.not_and_iff_or_not.mp g)).trans (g21 a j)) a j g), fun a j g => (r4 a j g).trans ((fun a j g => (wz_nr (Decidable.not_and_iff_or_not.mp g)).trans (g22 a j)) a j g), Or.inr (Or.inl ⟨by omega, rv_an_d d1 d2, (r2 tp 5 (by rintro ⟨-, h⟩; revert h; decide)).trans (hn_s), k, r0, rn, r1, ?_⟩)⟩)
                  rcases r5 with r5 | ⟨u1, u2, u3, u4, u5, u6⟩ | ⟨u1, u2, u3, u4⟩
                  · exact Or.inl r5
                  · exact Or.inr (Or.inl ⟨u1, u2, u3, u4, u5, u6.trans wz_sr⟩)
                  · exact Or.inr (Or.inr ⟨u1, u2, u3, u4.trans wz_sr⟩)
            · skip
              refine w_ifeq (fun c5 => ?_) (fun c5 => ?_)
              · skip
                refine w_aln rfl ?_
                refine w_ic ?_
                refine w_pi ht rfl (by decide) rfl (fun q => by cases q) ?_
                refine w_aln rfl ?_
                refine w_aln rfl ?_
                refine w_aln rfl ?_
                refine w_gi ht rfl (by decide) rfl ((hn_n (Or.inr (by decide))).trans ((hn_n (Or.inr (by decide))).trans ((hn_n (Or.inr (by decide))).trans ((hn_n (Or.inr (by decide))).trans (g1))))) ?_
                refine w_cv (st := [.inr (.inr (some tp))]) rfl ht rfl (Nat.le_of_ble_eq_true rfl) (fun kk h => h) (r_X7_valueAt (d := d + 1) (p := q) (B := B) ht hb hn ((wz_nr (Or.inr (by decide))).trans (f01)) ((hn_n (Or.inr (by decide))).trans ((hn_n (Or.inr (by decide))).trans ((hn_n (Or.inr (by decide))).trans ((hn_n (Or.inr (by decide))).trans (fs1))))) (fun j => Eq.trans (congrArg rv_u8 ((hn_n (Or.inl ne)).trans ((hn_n (Or.inl ne)).trans ((hn_n (Or.inl ne)).trans ((hn_n (Or.inl ne))))))) (fb1 j)) (fun c => ?_) (fun c => by exfalso; omega))
                · skip
                  refine w_pi ht rfl (by decide) rfl (fun q => by cases q) ?_
                  refine w_aln rfl ?_
                  refine w_dupr ?_
                  refine w_gi ht rfl (by decide) rfl ((hn_n (Or.inr (by decide))).trans ((hn_n (Or.inr (by decide))).trans ((hn_n (Or.inr (by decide))).trans ((hn_n (Or.inr (by decide))).trans ((hn_n (Or.inr (by decide))).trans (g1)))))) ?_
                  refine w_ic ?_
                  refine w_add ⟨by show (-2147483648 : Int) ≤ (q : Int) + 1; omega, by show (q : Int) + 1 < (2147483648 : Int); omega⟩ ?_
                  refine w_pi ht rfl (by decide) rfl (fun q => by cases q) ?_
                  exact w_ret (hQ _ ⟨(rv_o.tr (rv_o.tr (rv_o.tr (rv_o.tr (rv_o.tr (rv_o.tr o1 (rv_o.st (a := tp) (j := 6) (by decide))) (rv_o.st (a := tp) (j := 7) (by decide))) (rv_o.st (a := tp) (j := 5) (by decide))) (rv_o.st (a := tp) (j := 4) (by decide))) (rv_o.st (a := tp) (j := 7) (by decide))) (rv_o.st (a := tp) (j := 11) (by decide))), (fun a j g => (wz_nl (Decidable.not_and_iff_or_not.mp g)).trans (g21 a j)), (fun a j g => (wz_nr (Decidable.not_and_iff_or_not.mp g)).trans (g22 a j)), Or.inr (Or.inr ⟨by omega, rv_an_n l0 d0, (hn_n (Or.inr (by decide))).trans ((hn_n (Or.inr (by decide))).trans ((hn_n (Or.inr (by decide))).trans (hn_s))), (hn_n (Or.inr (by decide))).trans ((hn_n (Or.inr (by decide))).trans (hn_s)), (hn_n (Or.inr (by decide))).trans (hn_s), (hn_s).trans (by omega), wz_sr⟩)⟩)
              · exfalso; omega
  · skip
    refine w_aln rfl ?_
    refine w_ic ?_
    refine w_pi ht rfl (by decide) rfl (fun q => by cases q) ?_
    refine w_aln rfl ?_
    refine w_iln rfl ?_
    refine w_pi ht rfl (by decide) rfl (fun q => by cases q) ?_
    exact w_ret (hQ _ ⟨(rv_o.tr (rv_o.tr (rv_o.tr (rv_o.tr o1 (rv_o.st (a := tp) (j := 6) (by decide))) (rv_o.st (a := tp) (j := 7) (by decide))) (rv_o.st (a := tp) (j := 4) (by decide))) (rv_o.st (a := tp) (j := 5) (by decide))), (fun a j g => (wz_nl (Decidable.not_and_iff_or_not.mp g)).trans (g21 a j)), (fun a j g => (wz_nr (Decidable.not_and_iff_or_not.mp g)).trans (g22 a j)), Or.inl ⟨by omega, (hn_n (Or.inr (by decide))).trans (hn_s), hn_s, (hn_n (Or.inr (by decide))).trans ((hn_n (Or.inr (by decide))).trans ((hn_n (Or.inr (by decide))).trans ((hn_n (Or.inr (by decide))).trans (g1)))), wz_sr⟩⟩)
end
section
/-! ===== the reference's next: blanks are skipped (laid by a program) ===== -/
theorem r_nxt1 {d m br n : Nat} {B : Nat → Int} {G : mj_G} {Q : mj_P} (hm : G m = (1012, 0)) (hb : G br = (50101, 940)) (hn : n ≤ 940) : ∀ (f p : Nat) (M : mj_M) (cb sb : Nat), n ≤ p + f → M.2.2 m 1 = some br → M.1 m 3 = (n : Int) → M.1 m 4 = (p : Int) → (∀ k, rv_u8 (M.1 br k) = B k) →
    (∀ M', M'.1 m 4 = ((rv_sk B n f p : Nat) : Int) → rv_o m [4] M M' → M'.2 = M.2 → wz (d + 1) mt_X12_next.2.2.2.2.1 Q (mt_X12_next.2.2.2.2.1.drop 15) [some (.inr (.inr (some m))), none, none, none] [] G M' cb sb) → wz (d + 1) mt_X12_next.2.2.2.2.1 Q mt_X12_next.2.2.2.2.1 [some (.inr (.inr (some m))), none, none, none] [] G M cb sb := by
  have ne : br ≠ m := hn_ne hb hm (by decide)
  intro f
  induction f with
  | zero =>
    intro p M cb sb hf f1 fs fh fb hK
    refine w_aln rfl ?_
    refine w_cv (st := []) rfl hm rfl (Nat.le_of_ble_eq_true rfl) (fun kk h => h) (r_X12_peek (d := d) (p := p) (B := B) hm hb hn f1 (fs) (fh) fb (fun c => by exfalso; omega) (fun c => ?_))
    · skip
      refine w_bp ?_
      refine w_cmeq (fun c1 => ?_) (fun c1 => ?_)
      · exfalso; omega
      · skip
        refine w_aln rfl ?_
        refine w_cv (st := []) rfl hm rfl (Nat.le_of_ble_eq_true rfl) (fun kk h => h) (r_X12_peek (d := d) (p := p) (B := B) hm hb hn f1 (fs) (fh) fb (fun c => by exfalso; omega) (fun c => ?_))
        · skip
          refine w_bp ?_
          refine w_cmne (fun c2 => ?_) (fun c2 => ?_)
          · skip
            exact hK M fh rv_o.rf rfl
          · exfalso; omega
  | succ f ih =>
    intro p M cb sb hf f1 fs fh fb hK
    refine w_aln rfl ?_
    refine w_cv (st := []) rfl hm rfl (Nat.le_of_ble_eq_true rfl) (fun kk h => h) (r_X12_peek (d := d) (p := p) (B := B) hm hb hn f1 (fs) (fh) fb (fun ci => ?_) (fun ci => ?_))
    · skip
      refine w_bp ?_
      refine w_cmeq (fun c1 => ?_) (fun c1 => ?_)
      · skip
        refine w_aln rfl ?_
        refine w_dupr ?_
        refine w_gi hm rfl (by decide) rfl (fh) ?_
        refine w_ic ?_
        refine w_add ⟨by show (-2147483648 : Int) ≤ (p : Int) + 1; omega, by show (p : Int) + 1 < (2147483648 : Int); omega⟩ ?_
        refine w_pi hm rfl (by decide) rfl (fun q => by cases q) ?_
        refine w_goto ?_
        refine ih (p + 1) _ cb sb (by omega) f1 ((hn_n (Or.inr (by decide))).trans fs) (hn_s.trans (by omega)) (fun k => Eq.trans (congrArg rv_u8 (hn_n (Or.inl ne))) (fb k)) (fun M' e1 e2 e3 => hK M' ?_ (rv_o.tr (rv_o.st (by decide)) e2) e3)
        rw [e1, show rv_sk B n (f + 1) p = rv_sk B n f (p + 1) from if_pos (by omega)]
      · skip
        refine w_aln rfl ?_
        refine w_cv (st := []) rfl hm rfl (Nat.le_of_ble_eq_true rfl) (fun kk h => h) (r_X12_peek (d := d) (p := p) (B := B) hm hb hn f1 (fs) (fh) fb (fun c => ?_) (fun c => by exfalso; omega))
        · skip
          refine w_bp ?_
          refine w_cmne (fun c2 => ?_) (fun c2 => ?_)
          · skip
            refine hK M ?_ rv_o.rf rfl
            rw [show rv_sk B n (f + 1) p = p from if_neg (by omega)]; exact fh
          · skip
            refine w_aln rfl ?_
            refine w_dupr ?_
            refine w_gi hm rfl (by decide) rfl (fh) ?_
            refine w_ic ?_
            refine w_add ⟨by show (-2147483648 : Int) ≤ (p : Int) + 1; omega, by show (p : Int) + 1 < (2147483648 : Int); omega⟩ ?_
            refine w_pi hm rfl (by decide) rfl (fun q => by cases q) ?_
            refine w_goto ?_
            refine ih (p + 1) _ cb sb (by omega) f1 ((hn_n (Or.inr (by decide))).trans fs) (hn_s.trans (by omega)) (fun k => Eq.trans (congrArg rv_u8 (hn_n (Or.inl ne))) (fb k)) (fun M' e1 e2 e3 => hK M' ?_ (rv_o.tr (rv_o.st (by decide)) e2) e3)
            rw [e1, show rv_sk B n (f + 1) p = rv_sk B n f (p + 1) from if_pos (by omega)]
    · skip
      refine w_bp ?_
      refine w_cmeq (fun c3 => ?_) (fun c3 => ?_)
      · exfalso; omega
      · skip
        refine w_aln rfl ?_
        refine w_cv (st := []) rfl hm rfl (Nat.le_of_ble_eq_true rfl) (fun kk h => h) (r_X12_peek (d := d) (p := p) (B := B) hm hb hn f1 (fs) (fh) fb (fun c => by exfalso; omega) (fun c => ?_))
        · skip
          refine w_bp ?_
          refine w_cmne (fun c4 => ?_) (fun c4 => ?_)
          · skip
            refine hK M ?_ rv_o.rf rfl
            rw [show rv_sk B n (f + 1) p = p from if_neg (by omega)]; exact fh
          · exfalso; omega
end
