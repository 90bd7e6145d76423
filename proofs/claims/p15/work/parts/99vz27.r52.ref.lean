/-! ===== bidMany, offer, undo, worth, must of the reference: bids (laid by a program) ===== -/
theorem r_bm1 {G : mj_G} {M : mj_M} {m s : Nat} {Q : mj_P} {d : Nat} (gm : G m = (1012, 0)) (gs : G s = (51100, 537)) (m6 : M.2.2 m 6 = some s) : ∀ (j i : Nat) (cb sb : Nat), i + j = 96 → Q (some (.inl (lq_ct (fun i => M.1 s (88 + i)) 96))) G M → wz d mt_X12_bidMany.2.2.2.2.1 Q (mt_X12_bidMany.2.2.2.2.1.drop 4) [some (.inr (.inr (some m))), some (.inl (lq_ct (fun i => M.1 s (88 + i)) i)), some (.inl (i : Int))] [] G M cb sb := by
  intro j
  induction j with
  | zero =>
    intro i cb sb e h
    have e : i = 96 := by omega
    subst e
    refine w_iln rfl ?_
    refine w_bp ?_
    refine w_cmge (fun c => ?_) (fun c => by exfalso; omega)
    refine w_iln rfl ?_
    exact w_iret (fun q => by cases q) h
  | succ j ih =>
    intro i cb sb e h
    have b := lq_ct_b (fun i => M.1 s (88 + i)) i
    have ti : ((88 : Int) + (i : Int)).toNat = 88 + i := by omega
    refine w_iln rfl ?_
    refine w_bp ?_
    refine w_cmge (fun c => by exfalso; omega) (fun c => ?_)
    refine w_iln rfl ?_
    refine w_aln rfl ?_
    refine w_gr gm rfl (by decide) rfl m6 ?_
    refine w_bp ?_
    refine w_iln rfl ?_
    refine w_add ⟨by omega, by omega⟩ ?_
    refine w_iald (v := M.1 s (88 + i)) gs rfl (by omega) (by show (88 : Int) + (i : Int) < ((537 : Nat) : Int); omega) (by rw [ti]) ?_
    refine w_ifle (fun c2 => ?_) (fun c2 => ?_)
    · refine w_ic ?_
      refine w_add ⟨by omega, by omega⟩ ?_
      refine w_isn ?_
      refine w_ii rfl ⟨by omega, by omega⟩ ?_
      refine w_goto ?_
      have e1 : lq_ct (fun i => M.1 s (88 + i)) i + 0 = lq_ct (fun i => M.1 s (88 + i)) (i + 1) := by
        show _ = lq_ct (fun i => M.1 s (88 + i)) i + (if 0 < M.1 s (88 + i) then 1 else 0)
        rw [if_neg (by omega)]
      rw [e1]
      exact ih (i + 1) _ _ (by omega) h
    · refine w_ic ?_
      refine w_goto ?_
      refine w_add ⟨by omega, by omega⟩ ?_
      refine w_isn ?_
      refine w_ii rfl ⟨by omega, by omega⟩ ?_
      refine w_goto ?_
      have e1 : lq_ct (fun i => M.1 s (88 + i)) i + 1 = lq_ct (fun i => M.1 s (88 + i)) (i + 1) := by
        show _ = lq_ct (fun i => M.1 s (88 + i)) i + (if 0 < M.1 s (88 + i) then 1 else 0)
        rw [if_pos c2]
      rw [e1]
      exact ih (i + 1) _ _ (by omega) h
theorem r_X12_bidMany {G : mj_G} {M : mj_M} {m s : Nat} {Q : mj_P} {d : Nat} (gm : G m = (1012, 0)) (gs : G s = (51100, 537)) (m6 : M.2.2 m 6 = some s) (h : Q (some (.inl (lq_ct (fun i => M.1 s (88 + i)) 96))) G M) : mj_R mj_tab (d + 1) 166 [.inr (.inr (some m))] G M Q := by
  refine ⟨Nat.le_of_ble_eq_true rfl, ?_⟩
  show wz d mt_X12_bidMany.2.2.2.2.1 Q mt_X12_bidMany.2.2.2.2.1 [some (.inr (.inr (some m))), none, none] [] G M _ _
  refine w_ic ?_
  refine w_isn ?_
  refine w_ic ?_
  refine w_isn ?_
  exact r_bm1 gm gs m6 96 0 _ _ (by decide) h
theorem r_of1 {G : mj_G} {M0 : mj_M} {m un : Nat} {Q : mj_P} {d : Nat} {k o n : Int} (gm : G m = (1012, 0)) (gu : G un = (57100, 24)) (m27 : M0.2.2 m 27 = some un) : ∀ (f i : Nat) (M : mj_M) (cb sb : Nat), i + f = 21 → M.2 = M0.2 → (∀ a, a ≠ un → M.1 a = M0.1 a) → (∀ j, j < i → M.1 un j = M0.1 un (j + 3)) → (∀ j, i ≤ j → M.1 un j = M0.1 un j) → (∀ M' cb sb, M'.2 = M0.2 → (∀ a, a ≠ un → M'.1 a = M0.1 a) → (∀ j, j < 21 → M'.1 un j = M0.1 un (j + 3)) → wz d mt_X12_offer.2.2.2.2.1 Q (mt_X12_offer.2.2.2.2.1.drop 49) [some (.inr (.inr (some m))), some (.inl k), some (.inl o), some (.inl n), some (.inl 21)] [] G M' cb sb) → wz d mt_X12_offer.2.2.2.2.1 Q (mt_X12_offer.2.2.2.2.1.drop 34) [some (.inr (.inr (some m))), some (.inl k), some (.inl o), some (.inl n), some (.inl (i : Int))] [] G M cb sb := by
  intro f
  induction f with
  | zero =>
    intro i M cb sb e h2 h1 h3 h4 h
    have e : i = 21 := by omega
    subst e
    refine w_il rfl ?_
    refine w_bp ?_
    refine w_cmge (fun c => ?_) (fun c => by exfalso; omega)
    exact h M _ _ h2 h1 h3
  | succ f ih =>
    intro i M cb sb e h2 h1 h3 h4 h
    have ti : ((i : Int)).toNat = i := by omega
    have ti3 : ((i : Int) + 3).toNat = i + 3 := by omega
    refine w_il rfl ?_
    refine w_bp ?_
    refine w_cmge (fun c => by exfalso; omega) (fun c => ?_)
    refine w_aln rfl ?_
    refine w_gr gm rfl (by decide) rfl (by rw [h2]; exact m27) ?_
    refine w_il rfl ?_
    refine w_aln rfl ?_
    refine w_gr gm rfl (by decide) rfl (by rw [h2]; exact m27) ?_
    refine w_il rfl ?_
    refine w_ic ?_
    refine w_add ⟨by omega, by omega⟩ ?_
    refine w_iald (v := M0.1 un (i + 3)) gu rfl (by omega) (by show (i : Int) + 3 < ((24 : Nat) : Int); omega) (by rw [ti3]; exact h4 _ (by omega)) ?_
    refine w_iast gu rfl (by decide) (by omega) (by show (i : Int) < ((24 : Nat) : Int); omega) ?_
    refine w_ii rfl ⟨by omega, by omega⟩ ?_
    refine w_goto ?_
    rw [ti]
    refine ih (i + 1) _ _ _ (by omega) h2 (fun a a1 => (wz_c a1).trans (h1 a a1)) (fun j hj => ?_) (fun j hj => (hn_n (Or.inr (by omega))).trans (h4 j (by omega))) h
    rcases Nat.lt_or_ge j i with q | q
    · exact (hn_n (Or.inr (by omega))).trans (h3 j q)
    · rw [show j = i by omega]; exact hn_s
theorem r_of2 {G : mj_G} {M : mj_M} {m s : Nat} {w : Nat → Nat} {Q : mj_P} {d : Nat} {k o n : Int} {v4 : Option mj_V} (gm : G m = (1012, 0)) (gs : G s = (51100, 537)) (gu : G (w 344) = (57100, 24)) (m6 : M.2.2 m 6 = some s) (m27 : M.2.2 m 27 = some (w 344)) {z j : Nat} (hz : z < 8) (z3 : M.1 m 28 = (z : Int)) (k1 : 0 ≤ k) (k2 : k < 8) (o1 : 0 ≤ o) (o2 : o < 12) (hj : j = (12 * k + o + 88).toNat) (cb sb : Nat) (h : ∀ M', lq_ro w m s z 0 j k o n M M' → Q (some (.inl 1)) G M') : wz (d + 1) mt_X12_offer.2.2.2.2.1 Q (mt_X12_offer.2.2.2.2.1.drop 52) [some (.inr (.inr (some m))), some (.inl k), some (.inl o), some (.inl n), v4] [] G M cb sb := by
  have nm : w 344 ≠ m := hn_ne gu gm (by decide)
  have ns : w 344 ≠ s := hn_ne gu gs (by decide)
  have sm : s ≠ m := hn_ne gs gm (by decide)
  have e0 : ((3 : Int) * (z : Int)).toNat = 3 * z := by omega
  have e1 : ((3 : Int) * (z : Int) + 1).toNat = 3 * z + 1 := by omega
  have e2 : ((3 : Int) * (z : Int) + 2).toNat = 3 * z + 2 := by omega
  have ej : ((88 : Int) + 12 * k + o).toNat = j := by omega
  refine w_aln rfl ?_
  refine w_gr gm rfl (by decide) rfl m27 ?_
  refine w_ic ?_
  refine w_aln rfl ?_
  refine w_gi gm rfl (by decide) rfl z3 ?_
  refine w_mul ⟨by omega, by omega⟩ ?_
  refine w_iln rfl ?_
  refine w_iast gu rfl (by decide) (by omega) (by show (3 : Int) * (z : Int) < ((24 : Nat) : Int); omega) ?_
  rw [e0]
  refine w_aln rfl ?_
  refine w_gr gm rfl (by decide) rfl m27 ?_
  refine w_ic ?_
  refine w_aln rfl ?_
  refine w_gi gm rfl (by decide) rfl ((hn_n (Or.inl (Ne.symm nm))).trans z3) ?_
  refine w_mul ⟨by omega, by omega⟩ ?_
  refine w_ic ?_
  refine w_add ⟨by omega, by omega⟩ ?_
  refine w_iln rfl ?_
  refine w_iast gu rfl (by decide) (by omega) (by show (3 : Int) * (z : Int) + 1 < ((24 : Nat) : Int); omega) ?_
  rw [e1]
  refine w_aln rfl ?_
  refine w_gr gm rfl (by decide) rfl m27 ?_
  refine w_ic ?_
  refine w_aln rfl ?_
  refine w_gi gm rfl (by decide) rfl ((hn_n (Or.inl (Ne.symm nm))).trans ((hn_n (Or.inl (Ne.symm nm))).trans z3)) ?_
  refine w_mul ⟨by omega, by omega⟩ ?_
  refine w_ic ?_
  refine w_add ⟨by omega, by omega⟩ ?_
  refine w_aln rfl ?_
  refine w_iln rfl ?_
  refine w_iln rfl ?_
  refine w_cv (st := [.inl ((3 : Int) * (z : Int) + 2), .inr (.inr (some (w 344)))]) rfl gm rfl (Nat.le_of_ble_eq_true rfl) (fun kk h => h) ⟨Nat.le_of_ble_eq_true rfl, ?_⟩
  show wz d mt_X12_bidOf.2.2.2.2.1 _ mt_X12_bidOf.2.2.2.2.1 [some (.inr (.inr (some m))), some (.inl k), some (.inl o)] [] _ _ _ _
  refine w_aln rfl ?_
  refine w_gr gm rfl (by decide) rfl m6 ?_
  refine w_bp ?_
  refine w_bp ?_
  refine w_iln rfl ?_
  refine w_mul ⟨by omega, by omega⟩ ?_
  refine w_add ⟨by omega, by omega⟩ ?_
  refine w_iln rfl ?_
  refine w_add ⟨by omega, by omega⟩ ?_
  refine w_iald (v := M.1 s j) gs rfl (by omega) (by show (88 : Int) + 12 * k + o < ((537 : Nat) : Int); omega) (by rw [ej]; exact (hn_n (Or.inl (Ne.symm ns))).trans (hn_n (Or.inl (Ne.symm ns)))) ?_
  refine w_iret (fun q => by cases q) ?_
  refine w_iast gu rfl (by decide) (by omega) (by show (3 : Int) * (z : Int) + 2 < ((24 : Nat) : Int); omega) ?_
  rw [e2]
  refine w_aln rfl ?_
  refine w_dupr ?_
  refine w_gi gm rfl (by decide) rfl ((hn_n (Or.inl (Ne.symm nm))).trans ((hn_n (Or.inl (Ne.symm nm))).trans ((hn_n (Or.inl (Ne.symm nm))).trans z3))) ?_
  refine w_ic ?_
  refine w_add ⟨by omega, by omega⟩ ?_
  refine w_pi gm rfl (by decide) rfl (fun q => by cases q) ?_
  refine w_aln rfl ?_
  refine w_gr gm rfl (by decide) rfl m6 ?_
  refine w_bp ?_
  refine w_bp ?_
  refine w_iln rfl ?_
  refine w_mul ⟨by omega, by omega⟩ ?_
  refine w_add ⟨by omega, by omega⟩ ?_
  refine w_iln rfl ?_
  refine w_add ⟨by omega, by omega⟩ ?_
  refine w_iln rfl ?_
  refine w_iast gs rfl (by decide) (by omega) (by show (88 : Int) + 12 * k + o < ((537 : Nat) : Int); omega) ?_
  rw [ej]
  refine w_ic ?_
  refine w_iret (fun _ => Or.inr rfl) (h _ ⟨rfl, fun a a1 a2 a3 => (wz_c a3).trans ((wz_c a1).trans ((wz_c a2).trans ((wz_c a2).trans (wz_c a2)))), ?_, fun i hi => ?_, ?_, ?_, ?_, ?_⟩)
  · exact (hn_n (Or.inl (Ne.symm sm))).trans (hn_s.trans (by omega))
  · exact (hn_n (Or.inl ns)).trans ((hn_n (Or.inl nm)).trans ((hn_n (Or.inr (by omega))).trans ((hn_n (Or.inr (by omega))).trans (hn_n (Or.inr (by omega))))))
  · exact (hn_n (Or.inl ns)).trans ((hn_n (Or.inl nm)).trans ((hn_n (Or.inr (by omega))).trans ((hn_n (Or.inr (by omega))).trans hn_s)))
  · exact (hn_n (Or.inl ns)).trans ((hn_n (Or.inl nm)).trans ((hn_n (Or.inr (by omega))).trans hn_s))
  · exact (hn_n (Or.inl ns)).trans ((hn_n (Or.inl nm)).trans hn_s)
  · funext i
    by_cases e : i = j
    · subst e; rw [rv_up_s]; exact hn_s
    · rw [rv_up_n e]
      exact (hn_n (Or.inr e)).trans ((hn_n (Or.inl sm)).trans ((hn_n (Or.inl (Ne.symm ns))).trans ((hn_n (Or.inl (Ne.symm ns))).trans (hn_n (Or.inl (Ne.symm ns))))))
set_option maxRecDepth 100000 in
theorem r_X12_offer5 {G : mj_G} {M : mj_M} {m s : Nat} {w : Nat → Nat} {Q : mj_P} {d : Nat} {z1 z2 z3 : Int} (gm : G m = (1012, 0)) (gs : G s = (51100, 537)) (gu : G (w 344) = (57100, 24)) (m6 : M.2.2 m 6 = some s) (m27 : M.2.2 m 27 = some (w 344)) (b0 : 0 ≤ M.1 s 0 ∧ M.1 s 0 ≤ 8) (hc : (lq_ct (fun i => M.1 s (88 + i)) 96) ≤ 40) {z : Nat} (hz : z ≤ 8) (zu : M.1 m 28 = (z : Int)) (h0 : ¬ lq_ok (M.1 s) z1 z2 z3 → Q (some (.inl 0)) G (mj_p0 M m 0 0)) (h1 : lq_ok (M.1 s) z1 z2 z3 → ∀ z' h' M', lq_zs z z' h' → lq_ro w m s z' h' (12 * z1 + z2 + 88).toNat z1 z2 z3 M M' → Q (some (.inl 1)) G M') : mj_R mj_tab (d + 3) 220 [.inr (.inr (some m)), .inl z1, .inl z2, .inl z3] G M Q := by
  have sm : s ≠ m := hn_ne gs gm (by decide)
  have um : w 344 ≠ m := hn_ne gu gm (by decide)
  have es : (mj_p0 M m 0 0).1 s = M.1 s := wz_c sm
  refine ⟨Nat.le_of_ble_eq_true rfl, ?_⟩
  show wz (d + 2) mt_X12_offer.2.2.2.2.1 Q mt_X12_offer.2.2.2.2.1 [some (.inr (.inr (some m))), some (.inl z1), some (.inl z2), some (.inl z3), none] [] G M _ _
  refine w_aln rfl ?_
  refine w_ic ?_
  refine w_pi gm rfl (by decide) rfl (fun q => by cases q) ?_
  refine w_aln rfl ?_
  refine w_iln rfl ?_
  refine w_cv (st := []) rfl gm rfl (Nat.le_of_ble_eq_true rfl) (fun kk h => h) ⟨Nat.le_of_ble_eq_true rfl, ?_⟩
  show wz (d + 1) mt_X12_isTown.2.2.2.2.1 _ mt_X12_isTown.2.2.2.2.1 [some (.inr (.inr (some m))), some (.inl z1)] [] _ _ _ _
  refine w_iln rfl ?_
  refine w_ic ?_
  refine w_aln rfl ?_
  refine w_gr gm rfl (by decide) rfl (m6) ?_
  refine w_ic ?_
  refine w_iald (v := (M.1 s 0)) gs rfl (by show (0 : Int) ≤ 0; omega) (by show 0 < ((537 : Nat) : Int); omega) ((hn_n (Or.inl (hn_ne gs gm (by decide)))).trans (congrArg (M.1 s) (by show (0 : Int).toNat = 0; omega))) ?_
  refine w_ic ?_
  refine w_sub ⟨by show (-2147483648 : Int) ≤ (M.1 s 0) - 1; omega, by show (M.1 s 0) - 1 < (2147483648 : Int); omega⟩ ?_
  refine w_cs (st := []) rfl (Nat.le_of_ble_eq_true rfl) (fun kk h => h) ⟨Nat.le_of_ble_eq_true rfl, ?_⟩
  show wz (d) mt_X12_isIn.2.2.2.2.1 _ mt_X12_isIn.2.2.2.2.1 [some (.inl z1), some (.inl 0), some (.inl ((M.1 s 0) - 1))] [] _ _ _ _
  refine w_iln rfl ?_
  refine w_iln rfl ?_
  refine w_cmlt (fun c1 => ?_) (fun c1 => ?_)
  · skip
    refine w_ic ?_
    refine w_iret (fun _ => Or.inl rfl) ?_
    refine w_iret (fun _ => Or.inl rfl) ?_
    refine w_ifeq (fun c2 => ?_) (fun c2 => ?_)
    · skip
      refine w_ic ?_
      exact w_iret (fun _ => Or.inl rfl) (h0 (by unfold lq_ok; omega))
    · exfalso; omega
  · skip
    refine w_iln rfl ?_
    refine w_iln rfl ?_
    refine w_cmgt (fun c3 => ?_) (fun c3 => ?_)
    · skip
      refine w_ic ?_
      refine w_iret (fun _ => Or.inl rfl) ?_
      refine w_iret (fun _ => Or.inl rfl) ?_
      refine w_ifeq (fun c4 => ?_) (fun c4 => ?_)
      · skip
        refine w_ic ?_
        exact w_iret (fun _ => Or.inl rfl) (h0 (by unfold lq_ok; omega))
      · exfalso; omega
    · skip
      refine w_ic ?_
      refine w_goto ?_
      refine w_iret (fun _ => Or.inr rfl) ?_
      refine w_iret (fun _ => Or.inr rfl) ?_
      refine w_ifeq (fun c5 => ?_) (fun c5 => ?_)
      · exfalso; omega
      · skip
        refine w_iln rfl ?_
        refine w_cs (st := []) rfl (Nat.le_of_ble_eq_true rfl) (fun kk h => h) ⟨Nat.le_of_ble_eq_true rfl, ?_⟩
        show wz (d + 1) mt_X12_isMonth.2.2.2.2.1 _ mt_X12_isMonth.2.2.2.2.1 [some (.inl z2)] [] _ _ _ _
        refine w_iln rfl ?_
        refine w_ic ?_
        refine w_bp ?_
        refine w_cs (st := []) rfl (Nat.le_of_ble_eq_true rfl) (fun kk h => h) ⟨Nat.le_of_ble_eq_true rfl, ?_⟩
        show wz (d) mt_X12_isIn.2.2.2.2.1 _ mt_X12_isIn.2.2.2.2.1 [some (.inl z2), some (.inl 0), some (.inl 11)] [] _ _ _ _
        refine w_iln rfl ?_
        refine w_iln rfl ?_
        refine w_cmlt (fun c6 => ?_) (fun c6 => ?_)
        · skip
          refine w_ic ?_
          refine w_iret (fun _ => Or.inl rfl) ?_
          refine w_iret (fun _ => Or.inl rfl) ?_
          refine w_ifeq (fun c7 => ?_) (fun c7 => ?_)
          · skip
            refine w_ic ?_
            exact w_iret (fun _ => Or.inl rfl) (h0 (by unfold lq_ok; omega))
          · exfalso; omega
        · skip
          refine w_iln rfl ?_
          refine w_iln rfl ?_
          refine w_cmgt (fun c8 => ?_) (fun c8 => ?_)
          · skip
            refine w_ic ?_
            refine w_iret (fun _ => Or.inl rfl) ?_
            refine w_iret (fun _ => Or.inl rfl) ?_
            refine w_ifeq (fun c9 => ?_) (fun c9 => ?_)
            · skip
              refine w_ic ?_
              exact w_iret (fun _ => Or.inl rfl) (h0 (by unfold lq_ok; omega))
            · exfalso; omega
          · skip
            refine w_ic ?_
            refine w_goto ?_
            refine w_iret (fun _ => Or.inr rfl) ?_
            refine w_iret (fun _ => Or.inr rfl) ?_
            refine w_ifeq (fun c10 => ?_) (fun c10 => ?_)
            · exfalso; omega
            · skip
              refine w_iln rfl ?_
              refine w_ic ?_
              refine w_sp ?_
              refine w_cs (st := []) rfl (Nat.le_of_ble_eq_true rfl) (fun kk h => h) ⟨Nat.le_of_ble_eq_true rfl, ?_⟩
              show wz (d + 1) mt_X12_isIn.2.2.2.2.1 _ mt_X12_isIn.2.2.2.2.1 [some (.inl z3), some (.inl 0), some (.inl 999)] [] _ _ _ _
              refine w_iln rfl ?_
              refine w_iln rfl ?_
              refine w_cmlt (fun c11 => ?_) (fun c11 => ?_)
              · skip
                refine w_ic ?_
                refine w_iret (fun _ => Or.inl rfl) ?_
                refine w_ifeq (fun c12 => ?_) (fun c12 => ?_)
                · skip
                  refine w_ic ?_
                  exact w_iret (fun _ => Or.inl rfl) (h0 (by unfold lq_ok; omega))
                · exfalso; omega
              · skip
                refine w_iln rfl ?_
                refine w_iln rfl ?_
                refine w_cmgt (fun c13 => ?_) (fun c13 => ?_)
                · skip
                  refine w_ic ?_
                  refine w_iret (fun _ => Or.inl rfl) ?_
                  refine w_ifeq (fun c14 => ?_) (fun c14 => ?_)
                  · skip
                    refine w_ic ?_
                    exact w_iret (fun _ => Or.inl rfl) (h0 (by unfold lq_ok; omega))
                  · exfalso; omega
                · skip
                  refine w_ic ?_
                  refine w_goto ?_
                  refine w_iret (fun _ => Or.inr rfl) ?_
                  refine w_ifeq (fun c15 => ?_) (fun c15 => ?_)
                  · exfalso; omega
                  · skip
                    refine w_iln rfl ?_
                    refine w_ifle (fun c16 => ?_) (fun c16 => ?_)
                    · skip
                      refine w_aln rfl ?_
                      refine w_gi gm rfl (by decide) rfl ((hn_n (Or.inr (by decide))).trans zu) ?_
                      refine w_bp ?_
                      refine w_cmne (fun c17 => ?_) (fun c17 => ?_)
                      · skip
                        exact r_of2 (M := mj_p0 M m 0 0) (d := d + 1) gm gs gu m6 m27 (z := z) (by omega) ((hn_n (Or.inr (by decide))).trans zu) (by omega) (by omega) (by omega) (by omega) rfl _ _ (fun M' hr => h1 (by unfold lq_ok; omega) z 0 M' (Or.inl ⟨by omega, rfl, rfl⟩) (by
                          obtain ⟨q1, q2, q3, q4, q5, q6, q7, q8⟩ := hr
                          exact ⟨q1, fun a a1 a2 a3 => (q2 a a1 a2 a3).trans (wz_c a1), q3, fun i hi => (q4 i hi).trans (hn_n (Or.inl um)), q5, q6, q7.trans (by rw [es]), by rw [q8, es]⟩))
                      · skip
                        refine w_ic ?_
                        refine w_is ?_
                        show wz _ _ _ _ [some (.inr (.inr (some m))), some (.inl z1), some (.inl z2), some (.inl z3), some (.inl 0)] _ _ _ _ _
                        have e8 : z = 8 := by omega
                        subst e8
                        refine r_of1 (M0 := mj_p0 M m 0 0) gm gu m27 21 0 _ _ _ (by decide) rfl (fun _ _ => rfl) (fun j hj => absurd hj (Nat.not_lt_zero j)) (fun _ _ => rfl) (fun M1 cb sb g2 g1 g3 => ?_)
                        refine w_aln rfl ?_
                        refine w_bp ?_
                        refine w_pi gm rfl (by decide) rfl (fun q => by cases q) ?_
                        have es1 : (mj_p0 M1 m 28 7).1 s = M.1 s := (wz_c sm).trans ((g1 s (hn_ne gs gu (by decide))).trans es)
                        exact r_of2 (M := mj_p0 M1 m 28 7) (d := d + 1) gm gs gu (by show M1.2.2 m 6 = _; rw [g2]; exact m6) (by show M1.2.2 m 27 = _; rw [g2]; exact m27) (z := 7) (by decide) hn_s (by omega) (by omega) (by omega) (by omega) rfl _ _ (fun M' hr => h1 (by unfold lq_ok; omega) 7 1 M' (Or.inr ⟨rfl, rfl, rfl⟩) (by
                          obtain ⟨q1, q2, q3, q4, q5, q6, q7, q8⟩ := hr
                          exact ⟨q1.trans g2, fun a a1 a2 a3 => (q2 a a1 a2 a3).trans ((wz_c a1).trans ((g1 a a2).trans (wz_c a1))), q3, fun i hi => (q4 i hi).trans ((hn_n (Or.inl um)).trans ((g3 i (by omega)).trans (hn_n (Or.inl um)))), q5, q6, q7.trans (by rw [es1]), by rw [q8, es1]⟩))
                    · skip
                      refine w_aln rfl ?_
                      refine w_iln rfl ?_
                      refine w_iln rfl ?_
                      refine w_cv (st := []) rfl gm rfl (Nat.le_of_ble_eq_true rfl) (fun kk h => h) ⟨Nat.le_of_ble_eq_true rfl, ?_⟩
                      show wz (d + 1) mt_X12_bidOf.2.2.2.2.1 _ mt_X12_bidOf.2.2.2.2.1 [some (.inr (.inr (some m))), some (.inl z1), some (.inl z2)] [] _ _ _ _
                      refine w_aln rfl ?_
                      refine w_gr gm rfl (by decide) rfl (m6) ?_
                      refine w_bp ?_
                      refine w_bp ?_
                      refine w_iln rfl ?_
                      refine w_mul ⟨by show (-2147483648 : Int) ≤ 12 * z1; omega, by show 12 * z1 < (2147483648 : Int); omega⟩ ?_
                      refine w_add ⟨by show (-2147483648 : Int) ≤ 88 + (12 * z1); omega, by show 88 + (12 * z1) < (2147483648 : Int); omega⟩ ?_
                      refine w_iln rfl ?_
                      refine w_add ⟨by show (-2147483648 : Int) ≤ (88 + (12 * z1)) + z2; omega, by show (88 + (12 * z1)) + z2 < (2147483648 : Int); omega⟩ ?_
                      refine w_iald (v := (M.1 s (12 * z1 + z2 + 88).toNat)) gs rfl (by show (0 : Int) ≤ (88 + (12 * z1)) + z2; omega) (by show (88 + (12 * z1)) + z2 < ((537 : Nat) : Int); omega) ((hn_n (Or.inl (hn_ne gs gm (by decide)))).trans (congrArg (M.1 s) (by show ((88 + (12 * z1)) + z2).toNat = (12 * z1 + z2 + 88).toNat; omega))) ?_
                      refine w_iret (fun q => by cases q) ?_
                      refine w_ifne (fun c18 => ?_) (fun c18 => ?_)
                      · skip
                        refine w_aln rfl ?_
                        refine w_gi gm rfl (by decide) rfl ((hn_n (Or.inr (by decide))).trans zu) ?_
                        refine w_bp ?_
                        refine w_cmne (fun c19 => ?_) (fun c19 => ?_)
                        · skip
                          exact r_of2 (M := mj_p0 M m 0 0) (d := d + 1) gm gs gu m6 m27 (z := z) (by omega) ((hn_n (Or.inr (by decide))).trans zu) (by omega) (by omega) (by omega) (by omega) rfl _ _ (fun M' hr => h1 (by unfold lq_ok; omega) z 0 M' (Or.inl ⟨by omega, rfl, rfl⟩) (by
                            obtain ⟨q1, q2, q3, q4, q5, q6, q7, q8⟩ := hr
                            exact ⟨q1, fun a a1 a2 a3 => (q2 a a1 a2 a3).trans (wz_c a1), q3, fun i hi => (q4 i hi).trans (hn_n (Or.inl um)), q5, q6, q7.trans (by rw [es]), by rw [q8, es]⟩))
                        · skip
                          refine w_ic ?_
                          refine w_is ?_
                          show wz _ _ _ _ [some (.inr (.inr (some m))), some (.inl z1), some (.inl z2), some (.inl z3), some (.inl 0)] _ _ _ _ _
                          have e8 : z = 8 := by omega
                          subst e8
                          refine r_of1 (M0 := mj_p0 M m 0 0) gm gu m27 21 0 _ _ _ (by decide) rfl (fun _ _ => rfl) (fun j hj => absurd hj (Nat.not_lt_zero j)) (fun _ _ => rfl) (fun M1 cb sb g2 g1 g3 => ?_)
                          refine w_aln rfl ?_
                          refine w_bp ?_
                          refine w_pi gm rfl (by decide) rfl (fun q => by cases q) ?_
                          have es1 : (mj_p0 M1 m 28 7).1 s = M.1 s := (wz_c sm).trans ((g1 s (hn_ne gs gu (by decide))).trans es)
                          exact r_of2 (M := mj_p0 M1 m 28 7) (d := d + 1) gm gs gu (by show M1.2.2 m 6 = _; rw [g2]; exact m6) (by show M1.2.2 m 27 = _; rw [g2]; exact m27) (z := 7) (by decide) hn_s (by omega) (by omega) (by omega) (by omega) rfl _ _ (fun M' hr => h1 (by unfold lq_ok; omega) 7 1 M' (Or.inr ⟨rfl, rfl, rfl⟩) (by
                            obtain ⟨q1, q2, q3, q4, q5, q6, q7, q8⟩ := hr
                            exact ⟨q1.trans g2, fun a a1 a2 a3 => (q2 a a1 a2 a3).trans ((wz_c a1).trans ((g1 a a2).trans (wz_c a1))), q3, fun i hi => (q4 i hi).trans ((hn_n (Or.inl um)).trans ((g3 i (by omega)).trans (hn_n (Or.inl um)))), q5, q6, q7.trans (by rw [es1]), by rw [q8, es1]⟩))
                      · skip
                        refine w_aln rfl ?_
                        refine w_cv (st := []) rfl gm rfl (Nat.le_of_ble_eq_true rfl) (fun kk h => h) (r_X12_bidMany (M := mj_p0 M m 0 0) (d := d + 1) gm gs m6 ?_)
                        rw [es]
                        refine w_bp ?_
                        refine w_cmne (fun c20 => ?_) (fun c20 => ?_)
                        · skip
                          refine w_aln rfl ?_
                          refine w_gi gm rfl (by decide) rfl ((hn_n (Or.inr (by decide))).trans zu) ?_
                          refine w_bp ?_
                          refine w_cmne (fun c21 => ?_) (fun c21 => ?_)
                          · skip
                            exact r_of2 (M := mj_p0 M m 0 0) (d := d + 1) gm gs gu m6 m27 (z := z) (by omega) ((hn_n (Or.inr (by decide))).trans zu) (by omega) (by omega) (by omega) (by omega) rfl _ _ (fun M' hr => h1 (by unfold lq_ok; omega) z 0 M' (Or.inl ⟨by omega, rfl, rfl⟩) (by
                              obtain ⟨q1, q2, q3, q4, q5, q6, q7, q8⟩ := hr
                              exact ⟨q1, fun a a1 a2 a3 => (q2 a a1 a2 a3).trans (wz_c a1), q3, fun i hi => (q4 i hi).trans (hn_n (Or.inl um)), q5, q6, q7.trans (by rw [es]), by rw [q8, es]⟩))
                          · skip
                            refine w_ic ?_
                            refine w_is ?_
                            show wz _ _ _ _ [some (.inr (.inr (some m))), some (.inl z1), some (.inl z2), some (.inl z3), some (.inl 0)] _ _ _ _ _
                            have e8 : z = 8 := by omega
                            subst e8
                            refine r_of1 (M0 := mj_p0 M m 0 0) gm gu m27 21 0 _ _ _ (by decide) rfl (fun _ _ => rfl) (fun j hj => absurd hj (Nat.not_lt_zero j)) (fun _ _ => rfl) (fun M1 cb sb g2 g1 g3 => ?_)
                            refine w_aln rfl ?_
                            refine w_bp ?_
                            refine w_pi gm rfl (by decide) rfl (fun q => by cases q) ?_
                            have es1 : (mj_p0 M1 m 28 7).1 s = M.1 s := (wz_c sm).trans ((g1 s (hn_ne gs gu (by decide))).trans es)
                            exact r_of2 (M := mj_p0 M1 m 28 7) (d := d + 1) gm gs gu (by show M1.2.2 m 6 = _; rw [g2]; exact m6) (by show M1.2.2 m 27 = _; rw [g2]; exact m27) (z := 7) (by decide) hn_s (by omega) (by omega) (by omega) (by omega) rfl _ _ (fun M' hr => h1 (by unfold lq_ok; omega) 7 1 M' (Or.inr ⟨rfl, rfl, rfl⟩) (by
                              obtain ⟨q1, q2, q3, q4, q5, q6, q7, q8⟩ := hr
                              exact ⟨q1.trans g2, fun a a1 a2 a3 => (q2 a a1 a2 a3).trans ((wz_c a1).trans ((g1 a a2).trans (wz_c a1))), q3, fun i hi => (q4 i hi).trans ((hn_n (Or.inl um)).trans ((g3 i (by omega)).trans (hn_n (Or.inl um)))), q5, q6, q7.trans (by rw [es1]), by rw [q8, es1]⟩))
                        · skip
                          refine w_ic ?_
                          exact w_iret (fun _ => Or.inl rfl) (h0 (by unfold lq_ok; omega))
theorem r_X12_undo5 {G : mj_G} {M : mj_M} {m s : Nat} {w : Nat → Nat} {Q : mj_P} {d : Nat} (gm : G m = (1012, 0)) (gs : G s = (51100, 537)) (gu : G (w 344) = (57100, 24)) (m6 : M.2.2 m 6 = some s) (m27 : M.2.2 m 27 = some (w 344)) {z : Nat} (hz : z ≤ 8) (zu : M.1 m 28 = (z : Int)) (hb : ∀ i, i < z → (0 ≤ M.1 (w 344) (3 * i) ∧ M.1 (w 344) (3 * i) < 8) ∧ (0 ≤ M.1 (w 344) (3 * i + 1) ∧ M.1 (w 344) (3 * i + 1) < 12)) (h0 : z = 0 → Q (some (.inl (-1))) G (mj_p0 M m 0 0)) (h1 : ∀ y, z = y + 1 → Q (some (.inl (y : Int))) G (mj_p0 (mj_p0 (mj_p0 M m 0 0) m 28 (y : Int)) s (88 + 12 * M.1 (w 344) (3 * y) + M.1 (w 344) (3 * y + 1)).toNat (M.1 (w 344) (3 * y + 2)))) : mj_R mj_tab (d + 1) 253 [.inr (.inr (some m))] G M Q := by
  have um : w 344 ≠ m := hn_ne gu gm (by decide)
  have sm : s ≠ m := hn_ne gs gm (by decide)
  refine ⟨Nat.le_of_ble_eq_true rfl, ?_⟩
  show wz d mt_X12_undo.2.2.2.2.1 Q mt_X12_undo.2.2.2.2.1 [some (.inr (.inr (some m)))] [] G M _ _
  refine w_aln rfl ?_
  refine w_ic ?_
  refine w_pi gm rfl (by decide) rfl (fun q => by cases q) ?_
  refine w_aln rfl ?_
  refine w_gi gm rfl (by decide) rfl ((hn_n (Or.inr (by decide))).trans zu) ?_
  refine w_ifne (fun c => ?_) (fun c => ?_)
  · obtain ⟨y, rfl⟩ : ∃ y, z = y + 1 := ⟨z - 1, by omega⟩
    have by_ := hb y (by omega)
    have e0 : ((3 : Int) * (y : Int)).toNat = 3 * y := by omega
    have e1 : ((3 : Int) * (y : Int) + 1).toNat = 3 * y + 1 := by omega
    have e2 : ((3 : Int) * (y : Int) + 2).toNat = 3 * y + 2 := by omega
    have fu : ∀ i, (mj_p0 (mj_p0 M m 0 0) m 28 (y : Int)).1 (w 344) i = M.1 (w 344) i := fun i => (hn_n (Or.inl um)).trans (hn_n (Or.inl um))
    refine w_aln rfl ?_
    refine w_dupr ?_
    refine w_gi gm rfl (by decide) rfl ((hn_n (Or.inr (by decide))).trans zu) ?_
    refine w_ic ?_
    refine w_sub ⟨by omega, by omega⟩ ?_
    rw [show (((y + 1 : Nat) : Int) - 1) = (y : Int) by omega]
    refine w_pi gm rfl (by decide) rfl (fun q => by cases q) ?_
    refine w_aln rfl ?_
    refine w_gr gm rfl (by decide) rfl m6 ?_
    refine w_bp ?_
    refine w_bp ?_
    refine w_aln rfl ?_
    refine w_gr gm rfl (by decide) rfl m27 ?_
    refine w_ic ?_
    refine w_aln rfl ?_
    refine w_gi gm rfl (by decide) rfl hn_s ?_
    refine w_mul ⟨by omega, by omega⟩ ?_
    refine w_iald (v := M.1 (w 344) (3 * y)) gu rfl (by omega) (by show (3 : Int) * (y : Int) < ((24 : Nat) : Int); omega) (by rw [e0]; exact fu _) ?_
    refine w_mul ⟨by omega, by omega⟩ ?_
    refine w_add ⟨by omega, by omega⟩ ?_
    refine w_aln rfl ?_
    refine w_gr gm rfl (by decide) rfl m27 ?_
    refine w_ic ?_
    refine w_aln rfl ?_
    refine w_gi gm rfl (by decide) rfl hn_s ?_
    refine w_mul ⟨by omega, by omega⟩ ?_
    refine w_ic ?_
    refine w_add ⟨by omega, by omega⟩ ?_
    refine w_iald (v := M.1 (w 344) (3 * y + 1)) gu rfl (by omega) (by show (3 : Int) * (y : Int) + 1 < ((24 : Nat) : Int); omega) (by rw [e1]; exact fu _) ?_
    refine w_add ⟨by omega, by omega⟩ ?_
    refine w_aln rfl ?_
    refine w_gr gm rfl (by decide) rfl m27 ?_
    refine w_ic ?_
    refine w_aln rfl ?_
    refine w_gi gm rfl (by decide) rfl hn_s ?_
    refine w_mul ⟨by omega, by omega⟩ ?_
    refine w_ic ?_
    refine w_add ⟨by omega, by omega⟩ ?_
    refine w_iald (v := M.1 (w 344) (3 * y + 2)) gu rfl (by omega) (by show (3 : Int) * (y : Int) + 2 < ((24 : Nat) : Int); omega) (by rw [e2]; exact fu _) ?_
    refine w_iast gs rfl (by decide) (by omega) (by show (88 : Int) + 12 * M.1 (w 344) (3 * y) + M.1 (w 344) (3 * y + 1) < ((537 : Nat) : Int); omega) ?_
    refine w_aln rfl ?_
    refine w_gi gm rfl (by decide) rfl ((hn_n (Or.inl (Ne.symm sm))).trans hn_s) ?_
    exact w_iret (fun q => by cases q) (h1 y rfl)
  · refine w_ic ?_
    exact w_iret (fun q => by cases q) (h0 (by omega))
