/-! ===== the class's readRun (laid by a program) ===== -/
theorem rv_o.up {a : Nat} {ks ks' : List Nat} {M M' : mj_M} (h : rv_o a ks M M') (hs : ∀ k, k ∈ ks → k ∈ ks') : rv_o a ks' M M' := fun x k q => h x k (fun e => q ⟨e.1, hs k e.2⟩)
/-- the word of a code: one of the known ones, or none -/
def rv_wd (G : mj_G) (c : Int64) (r : Option Nat) : Prop := (∃ j w, j < 24 ∧ mj_wc.getD j 0 = c ∧ G w = (900050 + 1000 * j, 0) ∧ r = some w) ∨ ((∀ j, j < 24 → mj_wc.getD j 0 ≠ c) ∧ r = none)
/-- what readRun leaves, of a run of k bytes from q on -/
def rv_run (G : mj_G) (B : Nat → Int) (tp q k : Nat) (M M' : mj_M) : Prop := M'.1 tp 11 = ((q + k : Nat) : Int) ∧ rv_o tp [4, 6, 11] M M' ∧ (∀ a j, ¬ (a = tp ∧ j = 8) → M'.2.1 a j = M.2.1 a j) ∧ (∀ a j, ¬ (a = tp ∧ j = 9) → M'.2.2 a j = M.2.2 a j) ∧
  ((rv_nl B q k = k ∧ k ≤ 8 ∧ M'.1 tp 4 = 1 ∧ M'.2.1 tp 8 = rv_c5 B q k ∧ rv_wd G (rv_c5 B q k) (M'.2.2 tp 9)) ∨ (¬ (rv_nl B q k = k ∧ k ≤ 8) ∧ rv_nl B q k = 0 ∧ k ≤ 3 ∧ M'.1 tp 4 = 2 ∧ rv_nk B q k (M'.1 tp 6) ∧ M'.2.2 tp 9 = M.2.2 tp 9) ∨ (¬ (rv_nl B q k = k ∧ k ≤ 8) ∧ ¬ (rv_nl B q k = 0 ∧ k ≤ 3) ∧ M'.1 tp 4 = 4 ∧ M'.2.2 tp 9 = M.2.2 tp 9))
theorem r_X7_readRun {d tp bc n q : Nat} {B : Nat → Int} {G : mj_G} {M : mj_M} {Q : mj_P} (ht : G tp = (1008, 0)) (hb : G bc = (38101, 940)) (hn : n ≤ 940) (hw : rv_wl G M) (hq : q ≤ n) (f0 : M.2.2 tp 0 = some bc) (fs : M.1 tp 1 = (n : Int)) (fh : M.1 tp 11 = (q : Int)) (f6 : M.1 tp 6 = 0) (f8 : M.2.1 tp 8 = 0) (fb : ∀ k, rv_u8 (M.1 bc k) = B k) (hQ : ∀ k M', rv_rn B n (n - q) q = q + k → q + k ≤ n → rv_run G B tp q k M M' → Q none G M') : mj_R mj_tab (d + 2) 82 [.inr (.inr (some tp))] G M Q := by
  refine ⟨Nat.le_of_ble_eq_true rfl, ?_⟩
  show wz (d + 1) mt_X7_readRun.2.2.2.2.1 Q mt_X7_readRun.2.2.2.2.1 [some (.inr (.inr (some tp))), none, none, none] [] G M _ _
  refine w_ic ?_
  refine w_isn ?_
  refine w_ic ?_
  refine w_isn ?_
  refine r_run1 (q := q) (B := B) ht hb hn (n - q) 0 M none _ _ (by omega) (by omega) f0 fs fh (fun _ => f8) (fun _ _ => ⟨f6, by omega, fun _ => by omega, fun _ => by omega, fun _ => by omega, by omega⟩) fb (fun k M1 v3 g0 gn g2 g3 g3b g4 g5 g6 => ?_)
  have hl := rv_nl_le B q k
  have hw1 : rv_wl G M1 := by unfold rv_wl; rw [g3b]; exact hw
  have gr : ∀ a j, M1.2.2 a j = M.2.2 a j := fun a j => by rw [g3b]
  refine w_aln rfl ?_
  refine w_ic ?_
  refine w_pi ht rfl (by decide) rfl (fun q => by cases q) ?_
  refine w_iln rfl ?_
  refine w_ifne (fun c1 => ?_) (fun c1 => ?_)
  · skip
    refine w_iln rfl ?_
    refine w_ifne (fun c2 => ?_) (fun c2 => ?_)
    · skip
      exact w_ret (hQ k ((mj_p0 M1 tp 4 4)) g0 gn ⟨(hn_n (Or.inr (by decide))).trans (g2), (rv_o.tr (g3.up (by decide)) (rv_o.st (a := tp) (j := 4) (by decide))), g4, (fun a j _ => gr a j), Or.inr (Or.inr ⟨by omega, by omega, hn_s, gr tp 9⟩)⟩)
    · skip
      refine w_iln rfl ?_
      refine w_ic ?_
      refine w_cmgt (fun c3 => ?_) (fun c3 => ?_)
      · skip
        exact w_ret (hQ k ((mj_p0 M1 tp 4 4)) g0 gn ⟨(hn_n (Or.inr (by decide))).trans (g2), (rv_o.tr (g3.up (by decide)) (rv_o.st (a := tp) (j := 4) (by decide))), g4, (fun a j _ => gr a j), Or.inr (Or.inr ⟨by omega, by omega, hn_s, gr tp 9⟩)⟩)
      · skip
        refine w_aln rfl ?_
        refine w_ic ?_
        refine w_pi ht rfl (by decide) rfl (fun q => by cases q) ?_
        exact w_ret (hQ k ((mj_p0 (mj_p0 M1 tp 4 4) tp 4 2)) g0 gn ⟨(hn_n (Or.inr (by decide))).trans ((hn_n (Or.inr (by decide))).trans (g2)), (rv_o.tr (rv_o.tr (g3.up (by decide)) (rv_o.st (a := tp) (j := 4) (by decide))) (rv_o.st (a := tp) (j := 4) (by decide))), g4, (fun a j _ => gr a j), Or.inr (Or.inl ⟨by omega, by omega, by omega, hn_s, by rw [show ((mj_p0 (mj_p0 M1 tp 4 4) tp 4 2)).1 tp 6 = M1.1 tp 6 from (hn_n (Or.inr (by decide))).trans ((hn_n (Or.inr (by decide))))]; exact g6 (by omega) (by omega), gr tp 9⟩)⟩)
  · skip
    refine w_iln rfl ?_
    refine w_bp ?_
    refine w_cmgt (fun c4 => ?_) (fun c4 => ?_)
    · skip
      refine w_iln rfl ?_
      refine w_ifne (fun c5 => ?_) (fun c5 => ?_)
      · skip
        exact w_ret (hQ k ((mj_p0 M1 tp 4 4)) g0 gn ⟨(hn_n (Or.inr (by decide))).trans (g2), (rv_o.tr (g3.up (by decide)) (rv_o.st (a := tp) (j := 4) (by decide))), g4, (fun a j _ => gr a j), Or.inr (Or.inr ⟨by omega, by omega, hn_s, gr tp 9⟩)⟩)
      · skip
        refine w_iln rfl ?_
        refine w_ic ?_
        refine w_cmgt (fun c6 => ?_) (fun c6 => ?_)
        · skip
          exact w_ret (hQ k ((mj_p0 M1 tp 4 4)) g0 gn ⟨(hn_n (Or.inr (by decide))).trans (g2), (rv_o.tr (g3.up (by decide)) (rv_o.st (a := tp) (j := 4) (by decide))), g4, (fun a j _ => gr a j), Or.inr (Or.inr ⟨by omega, by omega, hn_s, gr tp 9⟩)⟩)
        · skip
          refine w_aln rfl ?_
          refine w_ic ?_
          refine w_pi ht rfl (by decide) rfl (fun q => by cases q) ?_
          exact w_ret (hQ k ((mj_p0 (mj_p0 M1 tp 4 4) tp 4 2)) g0 gn ⟨(hn_n (Or.inr (by decide))).trans ((hn_n (Or.inr (by decide))).trans (g2)), (rv_o.tr (rv_o.tr (g3.up (by decide)) (rv_o.st (a := tp) (j := 4) (by decide))) (rv_o.st (a := tp) (j := 4) (by decide))), g4, (fun a j _ => gr a j), Or.inr (Or.inl ⟨by omega, by omega, by omega, hn_s, by rw [show ((mj_p0 (mj_p0 M1 tp 4 4) tp 4 2)).1 tp 6 = M1.1 tp 6 from (hn_n (Or.inr (by decide))).trans ((hn_n (Or.inr (by decide))))]; exact g6 (by omega) (by omega), gr tp 9⟩)⟩)
    · skip
      refine w_aln rfl ?_
      refine w_ic ?_
      refine w_pi ht rfl (by decide) rfl (fun q => by cases q) ?_
      refine w_aln rfl ?_
      refine w_aln rfl ?_
      refine w_gl ht rfl (by decide) rfl (rfl) ?_
      refine w_cs (st := [.inr (.inr (some tp))]) rfl (Nat.le_of_ble_eq_true rfl) (fun kk h => h) (r_X9_find (d := d) hw1 (fun j w j1 j2 j3 => ?_) (fun j0 => ?_))
      · skip
        refine w_pr ht rfl (by decide) rfl ?_
        refine w_goto ?_
        exact w_ret (hQ k ((mj_p2 (mj_p0 (mj_p0 M1 tp 4 4) tp 4 1) tp 9 (some w))) g0 gn ⟨(hn_n (Or.inr (by decide))).trans ((hn_n (Or.inr (by decide))).trans (g2)), (rv_o.tr (rv_o.tr (g3.up (by decide)) (rv_o.st (a := tp) (j := 4) (by decide))) (rv_o.st (a := tp) (j := 4) (by decide))), g4, (fun a j g => (wz_nr (Decidable.not_and_iff_or_not.mp g)).trans (gr a j)), Or.inl ⟨by omega, by omega, hn_s, g5 (by omega), Or.inl ⟨j, w, j1, j2.trans (g5 (by omega)), j3, wz_sr⟩⟩⟩)
      · skip
        refine w_pr ht rfl (by decide) rfl ?_
        refine w_goto ?_
        exact w_ret (hQ k ((mj_p2 (mj_p0 (mj_p0 M1 tp 4 4) tp 4 1) tp 9 none)) g0 gn ⟨(hn_n (Or.inr (by decide))).trans ((hn_n (Or.inr (by decide))).trans (g2)), (rv_o.tr (rv_o.tr (g3.up (by decide)) (rv_o.st (a := tp) (j := 4) (by decide))) (rv_o.st (a := tp) (j := 4) (by decide))), g4, (fun a j g => (wz_nr (Decidable.not_and_iff_or_not.mp g)).trans (gr a j)), Or.inl ⟨by omega, by omega, hn_s, g5 (by omega), Or.inr ⟨fun j q h => j0 j q (h.trans (g5 (by omega)).symm), wz_sr⟩⟩⟩)
