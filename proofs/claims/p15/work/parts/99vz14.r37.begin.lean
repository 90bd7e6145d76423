/-! ===== the reference's image and restore with contents; begin and water of both sides ===== -/
theorem lc_X12_image5 {d x m tp s kp ik : Nat} {z1 : Int} {G : mj_G} {M : mj_M} {Q : mj_P} (hV : lw_V G M x m tp s kp) (hik : G ik = (72102, 2)) (h61 : M.2.2 m 61 = some ik) (hQ : ∀ z M', lw_V G M' x m tp s kp → (M'.1 tp 1 = M.1 tp 1 ∧ M'.1 m 2 = M.1 m 2) → ab_frm hn_WI G M M' → ((¬ (0 ≤ z1 ∧ z1 ≤ 1) ∧ z = 0 ∧ (∀ q, M'.1 ik q = M.1 ik q) ∧ M'.1 kp = M.1 kp) ∨ (∃ k : Nat, k ≤ 1 ∧ z1 = (k : Int) ∧ z = 1 ∧ M'.1 ik k = 1 ∧ (∀ q, q ≠ k → M'.1 ik q = M.1 ik q) ∧ (∀ p, p < 537 → M'.1 kp (538 * k + p) = M.1 s p) ∧ (∀ q, q < 538 * k ∨ 538 * k + 538 ≤ q → M'.1 kp q = M.1 kp q))) → Q (some (.inl z)) G M') : mj_R mj_tab (d + 31) 195 [.inr (.inr (some m)), .inl z1] G M Q := by
  obtain ⟨hI, ⟨g1, g2, g3, g4, g5⟩, ⟨r1, r2, r3⟩, f1, f2, f3⟩ := id hV
  refine r_image (d := d + 29) g2 g4 g5 hik r2 r3 h61 hI (fun c0 => ?_) (fun k M' ek hk i e22 f h1 h2 k1 k2 => ?_)
  · have f0 : ab_frm [(1012, 0, 0)] G M (mj_p0 M m 0 0) := hn_f0 ab_frm.rf ⟨(1012, 0, 0), by decide, by rw [g2], by decide, by decide⟩
    exact hQ 0 _ (hV.fr (hI.p0 (by rw [g2]; exact ⟨by decide, by decide⟩)) f0 (by decide)) (hV.sz f0 (by decide)) (hn_up f0 (by decide)) (Or.inl ⟨c0, rfl, fun q => hn_n (Or.inl (hn_ne hik g2 (by decide))), wz_c (hn_ne g5 g2 (by decide))⟩)
  · refine hQ 1 M' ⟨i, ⟨g1, g2, g3, g4, g5⟩, ⟨by rw [e22]; exact r1, by rw [e22]; exact r2, by rw [e22]; exact r3⟩, f1.cg (fun q _ => (f s q (by rw [g4]; exact hn_nt (by decide))).1), ?_, ?_⟩ (hV.sz f (by decide)) f (Or.inr ⟨k, hk, ek, rfl, k1, k2, h1, h2⟩)
    · by_cases e : k = 0
      · subst e
        exact f1.mv (lw_45 hI g4) (fun j hj => by have := h1 (356 + j) (by omega); rw [Nat.mul_zero, Nat.zero_add] at this; exact this)
      · exact f2.mv (lw_45k (k := 0) hI g5 (by decide)) (fun j hj => h2 (356 + j) (by omega))
    · by_cases e : k = 0
      · subst e
        exact f3.mv (lw_45k (k := 1) hI g5 (by decide)) (fun j hj => h2 (894 + j) (by omega))
      · have e1 : k = 1 := by omega
        subst e1
        exact f1.mv (lw_45 hI g4) (fun j hj => by have := h1 (356 + j) (by omega); rw [show 538 * 1 + (356 + j) = 894 + j by omega] at this; exact this)
theorem lc_X12_restore5 {d x m tp s kp ik : Nat} {z1 : Int} {G : mj_G} {M : mj_M} {Q : mj_P} (hV : lw_V G M x m tp s kp) (hik : G ik = (72102, 2)) (h61 : M.2.2 m 61 = some ik) (hQ : ∀ z M', lw_V G M' x m tp s kp → (M'.1 tp 1 = M.1 tp 1 ∧ M'.1 m 2 = M.1 m 2) → ab_frm hn_WR G M M' → (((¬ (0 ≤ z1 ∧ z1 ≤ 1) ∨ M.1 ik z1.toNat = 0) ∧ z = 0 ∧ M'.1 s = M.1 s) ∨ (∃ k : Nat, k ≤ 1 ∧ z1 = (k : Int) ∧ M.1 ik k ≠ 0 ∧ z = 1 ∧ (∀ p, p < 537 → M'.1 s p = M.1 kp (538 * k + p)))) → Q (some (.inl z)) G M') : mj_R mj_tab (d + 31) 235 [.inr (.inr (some m)), .inl z1] G M Q := by
  obtain ⟨hI, ⟨g1, g2, g3, g4, g5⟩, ⟨r1, r2, r3⟩, f1, f2, f3⟩ := id hV
  refine r_restore (d := d + 29) g2 g4 g5 hik r2 r3 h61 hI (fun c0 => ?_) (fun k M' ek hk k0 i e22 f h1 => ?_)
  · have f0 : ab_frm [(1012, 0, 0)] G M (mj_p0 M m 0 0) := hn_f0 ab_frm.rf ⟨(1012, 0, 0), by decide, by rw [g2], by decide, by decide⟩
    exact hQ 0 _ (hV.fr (hI.p0 (by rw [g2]; exact ⟨by decide, by decide⟩)) f0 (by decide)) (hV.sz f0 (by decide)) (hn_up f0 (by decide)) (Or.inl ⟨c0.imp id (fun ⟨k, e1, e2, e3⟩ => by rw [e1]; exact e3), rfl, wz_c (hn_ne g4 g2 (by decide))⟩)
  · have hF : hn_F M' s 356 := by
      by_cases e : k = 0
      · subst e
        exact f2.mv (lw_45k (k := 0) hI g5 (by decide)) (fun j hj => by have := h1 (356 + j) (by omega); rw [Nat.mul_zero, Nat.zero_add] at this; exact this)
      · have e1 : k = 1 := by omega
        subst e1
        exact f3.mv (lw_45k (k := 1) hI g5 (by decide)) (fun j hj => by have := h1 (356 + j) (by omega); rw [show 538 * 1 + (356 + j) = 894 + j by omega] at this; exact this)
    exact hQ 1 M' (hV.fs i f (by decide) hF).1 (hV.sz f (by decide)) f (Or.inr ⟨k, hk, ek, k0, rfl, h1⟩)
section BE
variable {G : mj_G} {M : mj_M} {w : Nat → Nat} {x m p q tp s kp : Nat} {z1 : Int} {Q : mj_P}
theorem r_X11_begin4 (hI : ab_Inv G M) (gx : G x = (1011, 0)) (hA : lq_A G w) (hB : lq_B M w x) (hN : lq_N M w p q) (h0 : M.1 (w p) 4 = 0 → ∀ M', Q (some (.inl 0)) G M') (h1 : M.1 (w p) 4 ≠ 0 → ∀ M', Q (some (.inl 1)) G M') : mj_R mj_tab 40 110 [.inr (.inr (some x))] G M Q := by
  obtain ⟨gp, -⟩ := hA.2.1 p hN.pin.1
  obtain ⟨ye, w3, gye⟩ := hn_rf (k := 3) (q := (1010, 0)) hI hA.2.2.1 rfl (by decide) (by decide) (by decide) (fun e => absurd e (by decide))
  refine ⟨Nat.le_of_ble_eq_true rfl, ?_⟩
  show wz 39 mt_X11_begin.2.2.2.2.1 Q mt_X11_begin.2.2.2.2.1 [some (.inr (.inr (some x)))] [] G M _ _
  refine w_aln rfl ?_
  refine w_gr gx rfl (by decide) rfl hB.2.1 ?_
  refine w_gr hA.2.2.1 rfl (by decide) rfl hN.1 ?_
  refine w_gi gp rfl (by decide) rfl rfl ?_
  refine w_ifne (fun c => ?_) (fun c => ?_)
  · refine w_aln rfl ?_
    refine w_gr gx rfl (by decide) rfl hB.2.1 ?_
    refine w_gr hA.2.2.1 rfl (by decide) rfl w3 ?_
    refine w_aln rfl ?_
    refine w_gr gx rfl (by decide) rfl hB.2.1 ?_
    refine w_gr hA.2.2.1 rfl (by decide) rfl hN.1 ?_
    refine w_cv (st := []) rfl gye rfl (Nat.le_of_ble_eq_true rfl) (fun kk h => h) (lw_cc (c := cd_9) (dd := 38) (ab_all_ok 223 (Nat.le_refl _) 11 (by decide)) rfl (by decide +kernel) gye gp (by decide) (by decide) (by decide) (by decide) (by decide) (by decide) (by decide +kernel) hI (fun M1 I1 f1 => ?_))
    refine w_ic ?_
    exact w_iret (fun _ => Or.inr rfl) (h1 c _)
  · refine w_ic ?_
    exact w_iret (fun _ => Or.inl rfl) (h0 c _)
theorem r_begins {dd : Nat} (hd : ab_h cd_61 ≤ dd) (hI : ab_Inv G M) (gm : G m = (1012, 0)) (gs : G s = (51100, 537)) (m6 : M.2.2 m 6 = some s) (hQ : ∀ M', ab_Inv G M' → ab_frm (ab_w cd_61) G M M' → Q none G M') : mj_R mj_tab (dd + 1) 163 [.inr (.inr (some m))] G M Q := by
  have b : 0 ≤ M.1 s 222 ∧ M.1 s 222 ≤ 12 := by
    have h := hI.1 s 222
    rw [gs] at h
    exact h
  refine ab_all_ok 223 (Nat.le_refl _) 68 (by decide) dd hd G M (1, hn_g [M.1 s 222], 2, lw_w2 m s) _ Q (hn_Y1 b) ⟨rfl, fun i q e => by
    cases i with
    | zero => cases e; exact Or.inr (Or.inr (Or.inr ⟨by decide, by decide, by decide, m, rfl, gm⟩))
    | succ i => cases i with
      | zero => cases e; exact Or.inr (Or.inr (Or.inr ⟨by decide, by decide, by decide, s, rfl, gs⟩))
      | succ i => cases e⟩ (fun e he => by
    cases he with
    | head => exact ⟨Nat.le_of_ble_eq_true rfl, m, 6, rfl, rfl, by decide, Nat.le_of_ble_eq_true rfl, m6⟩
    | tail _ he => cases he with
      | head => exact ⟨Nat.le_of_ble_eq_true rfl, s, 222, rfl, rfl, by decide, hn_I (Nat.le_of_ble_eq_true rfl) rfl⟩
      | tail _ he => cases he) ⟨_, _, rfl, ⟨Nat.le_of_ble_eq_true rfl, rfl⟩, rfl⟩ hI (fun r M' i f ⟨po, hpo, h⟩ => ?_)
  cases hpo with
  | head =>
    have hr : r = none := h.1
    rw [hr]; exact hQ M' i f
  | tail _ hpo => cases hpo
theorem r_X12_begin4 (hI : ab_Inv G M) (gm : G m = (1012, 0)) (gs : G s = (51100, 537)) (m6 : M.2.2 m 6 = some s) (h0 : M.1 s 0 = 0 → ∀ M', Q (some (.inl 0)) G M') (h1 : M.1 s 0 ≠ 0 → ∀ M', Q (some (.inl 1)) G M') : mj_R mj_tab 40 162 [.inr (.inr (some m))] G M Q := by
  refine ⟨Nat.le_of_ble_eq_true rfl, ?_⟩
  show wz 39 mt_X12_begin.2.2.2.2.1 Q mt_X12_begin.2.2.2.2.1 [some (.inr (.inr (some m)))] [] G M _ _
  refine w_aln rfl ?_
  refine w_ic ?_
  refine w_pi gm rfl (by decide) rfl (fun q => by cases q) ?_
  refine w_aln rfl ?_
  refine w_gr gm rfl (by decide) rfl m6 ?_
  refine w_ic ?_
  refine w_iald (v := M.1 s 0) gs rfl (by decide) (by decide) (hn_n (Or.inl (hn_ne gs gm (by decide)))) ?_
  refine w_ifne (fun c => ?_) (fun c => ?_)
  · refine w_aln rfl ?_
    refine w_cv (st := []) rfl gm rfl (Nat.le_of_ble_eq_true rfl) (fun kk h => h) (r_begins (dd := 38) (by decide +kernel) (hI.p0 (by rw [gm]; exact ⟨by decide, by decide⟩)) gm gs m6 (fun M1 I1 f1 => ?_))
    refine w_ic ?_
    exact w_iret (fun _ => Or.inr rfl) (h1 c _)
  · refine w_ic ?_
    exact w_iret (fun _ => Or.inl rfl) (h0 c _)
end BE
