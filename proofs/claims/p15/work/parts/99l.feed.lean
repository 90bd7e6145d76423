/-! ===== feed of both sides ===== -/
theorem lw_Y6 {z1 z2 z3 z4 z5 z6 lo hi : Int} {q : Nat × (Nat → Option Nat)} (h1 : mj_in z1) (h2 : mj_in z2) (h3 : mj_in z3) (h4 : mj_in z4) (h5 : mj_in z5) (h6 : lo ≤ z6 ∧ z6 ≤ hi) : ab_RY (6, hn_g [z1, z2, z3, z4, z5, z6], q) [lw_yy, lw_yy, lw_yy, lw_yy, lw_yy, (lo, hi, [])] := hn_Y (zs := [z1, z2, z3, z4, z5, z6]) rfl (fun i lo hi r e => by
  cases i with
  | zero => cases e; exact ⟨rfl, hn_ii h1⟩
  | succ i => cases i with
    | zero => cases e; exact ⟨rfl, hn_ii h2⟩
    | succ i => cases i with
      | zero => cases e; exact ⟨rfl, hn_ii h3⟩
      | succ i => cases i with
        | zero => cases e; exact ⟨rfl, hn_ii h4⟩
        | succ i => cases i with
          | zero => cases e; exact ⟨rfl, hn_ii h5⟩
          | succ i => cases i with
            | zero => cases e; exact ⟨rfl, h6⟩
            | succ i => cases e)
theorem lc_X11_feed {d x m tp s kp : Nat} {z1 z2 z3 z4 z5 : Int} {G : mj_G} {M : mj_M} {Q : mj_P} (hV : lw_V G M x m tp s kp) (h1 : mj_in z1) (h2 : mj_in z2) (h3 : mj_in z3) (h4 : mj_in z4) (h5 : mj_in z5) (hQ1 : M.1 tp 1 ≤ 920 → ∀ M', lw_V G M' x m tp s kp → M'.1 tp 1 = M.1 tp 1 + 20 → M'.1 m 2 = M.1 m 2 → ab_frm (ab_w cx_X11_feed_lo) G M M' → Q (some (.inl (M.1 tp 1 + 20))) G M') (hQ2 : 921 ≤ M.1 tp 1 → ∀ M', lw_V G M' x m tp s kp → M'.1 tp 1 = M.1 tp 1 → M'.1 m 2 = M.1 m 2 → ab_frm (ab_w cx_X11_feed_hi) G M M' → Q (some (.inl (-1))) G M') : mj_R mj_tab (d + 31) 124 [.inr (.inr (some x)), .inl z1, .inl z2, .inl z3, .inl z4, .inl z5] G M Q := by
  obtain ⟨hI, ⟨g1, g2, g3, g4, g5⟩, ⟨r1, r2, r3⟩, -⟩ := id hV
  have hb : 0 ≤ M.1 tp 1 ∧ M.1 tp 1 ≤ 940 := by
    have := hI.1 tp 1
    rw [g3] at this
    exact this
  by_cases hc : M.1 tp 1 ≤ 920
  · skip
    refine xo_X11_feed_lo (d + 30) (Nat.le_trans (by decide +kernel : ab_h cx_X11_feed_lo ≤ 30) (Nat.le_add_left 30 d)) G M (6, hn_g [z1, z2, z3, z4, z5, M.1 tp 1], 2, lw_w2 x tp) _ Q (lw_Y6 h1 h2 h3 h4 h5 ⟨hb.1, hc⟩) (lw_R2 g1 g3) (fun e he => by
      cases he with
      | head => exact ⟨Nat.le_of_ble_eq_true rfl, x, 0, rfl, rfl, by decide, Nat.le_of_ble_eq_true rfl, r1⟩
      | tail _ he => cases he with
        | head => exact ⟨Nat.le_of_ble_eq_true rfl, tp, 1, rfl, rfl, by decide, hn_I (Nat.le_of_ble_eq_true rfl) rfl⟩
        | tail _ he => cases he) ⟨_, _, rfl, ⟨Nat.le_of_ble_eq_true rfl, rfl⟩, _, _, rfl, ⟨_, rfl, hn_I (Nat.le_of_ble_eq_true rfl) rfl⟩, _, _, rfl, ⟨_, rfl, hn_I (Nat.le_of_ble_eq_true rfl) rfl⟩, _, _, rfl, ⟨_, rfl, hn_I (Nat.le_of_ble_eq_true rfl) rfl⟩, _, _, rfl, ⟨_, rfl, hn_I (Nat.le_of_ble_eq_true rfl) rfl⟩, _, _, rfl, ⟨_, rfl, hn_I (Nat.le_of_ble_eq_true rfl) rfl⟩, rfl⟩ hI (fun r M' i f ⟨po, hpo, h⟩ => ?_)
    cases hpo with
    | head =>
      obtain ⟨⟨z, rfl, hz⟩, hm⟩ := h
      obtain ⟨a, ha, hx⟩ := hm _ (List.Mem.head _)
      cases ha
      have hz : z = M.1 tp 1 + 20 := hz
      subst hz
      exact hQ1 hc M' (hV.fr i f (by decide +kernel)) hx (f m 2 (by rw [g2]; exact hn_nt (by decide +kernel))).1 f
    | tail _ hpo => cases hpo
  · skip
    refine xo_X11_feed_hi (d + 30) (Nat.le_trans (by decide +kernel : ab_h cx_X11_feed_hi ≤ 30) (Nat.le_add_left 30 d)) G M (6, hn_g [z1, z2, z3, z4, z5, M.1 tp 1], 2, lw_w2 x tp) _ Q (lw_Y6 h1 h2 h3 h4 h5 ⟨by show (921 : Int) ≤ _; omega, hb.2⟩) (lw_R2 g1 g3) (fun e he => by
      cases he with
      | head => exact ⟨Nat.le_of_ble_eq_true rfl, x, 0, rfl, rfl, by decide, Nat.le_of_ble_eq_true rfl, r1⟩
      | tail _ he => cases he with
        | head => exact ⟨Nat.le_of_ble_eq_true rfl, tp, 1, rfl, rfl, by decide, hn_I (Nat.le_of_ble_eq_true rfl) rfl⟩
        | tail _ he => cases he) ⟨_, _, rfl, ⟨Nat.le_of_ble_eq_true rfl, rfl⟩, _, _, rfl, ⟨_, rfl, hn_I (Nat.le_of_ble_eq_true rfl) rfl⟩, _, _, rfl, ⟨_, rfl, hn_I (Nat.le_of_ble_eq_true rfl) rfl⟩, _, _, rfl, ⟨_, rfl, hn_I (Nat.le_of_ble_eq_true rfl) rfl⟩, _, _, rfl, ⟨_, rfl, hn_I (Nat.le_of_ble_eq_true rfl) rfl⟩, _, _, rfl, ⟨_, rfl, hn_I (Nat.le_of_ble_eq_true rfl) rfl⟩, rfl⟩ hI (fun r M' i f ⟨po, hpo, h⟩ => ?_)
    cases hpo with
    | head =>
      obtain ⟨⟨z, rfl, hz⟩, hm⟩ := h
      obtain ⟨a, ha, hx⟩ := hm _ (List.Mem.head _)
      cases ha
      have hz : z = -1 := hz
      subst hz
      have hx : M'.1 tp 1 = M.1 tp 1 + 0 := hx
      exact hQ2 (by omega) M' (hV.fr i f (by decide +kernel)) (by omega) (f m 2 (by rw [g2]; exact hn_nt (by decide +kernel))).1 f
    | tail _ hpo => cases hpo
theorem lc_X12_feed {d x m tp s kp : Nat} {z1 z2 z3 z4 z5 : Int} {G : mj_G} {M : mj_M} {Q : mj_P} (hV : lw_V G M x m tp s kp) (h1 : mj_in z1) (h2 : mj_in z2) (h3 : mj_in z3) (h4 : mj_in z4) (h5 : mj_in z5) (hQ1 : M.1 m 2 ≤ 920 → ∀ M', lw_V G M' x m tp s kp → M'.1 m 2 = M.1 m 2 + 20 → M'.1 tp 1 = M.1 tp 1 → ab_frm (ab_w cx_X12_feed_lo) G M M' → Q (some (.inl (M.1 m 2 + 20))) G M') (hQ2 : 921 ≤ M.1 m 2 → ∀ M', lw_V G M' x m tp s kp → M'.1 m 2 = M.1 m 2 → M'.1 tp 1 = M.1 tp 1 → ab_frm (ab_w cx_X12_feed_hi) G M M' → Q (some (.inl (-1))) G M') : mj_R mj_tab (d + 31) 187 [.inr (.inr (some m)), .inl z1, .inl z2, .inl z3, .inl z4, .inl z5] G M Q := by
  obtain ⟨hI, ⟨g1, g2, g3, g4, g5⟩, ⟨r1, r2, r3⟩, -⟩ := id hV
  have hb : 0 ≤ M.1 m 2 ∧ M.1 m 2 ≤ 940 := by
    have := hI.1 m 2
    rw [g2] at this
    exact this
  by_cases hc : M.1 m 2 ≤ 920
  · skip
    refine xo_X12_feed_lo (d + 30) (Nat.le_trans (by decide +kernel : ab_h cx_X12_feed_lo ≤ 30) (Nat.le_add_left 30 d)) G M (6, hn_g [z1, z2, z3, z4, z5, M.1 m 2], 1, fun _ => some m) _ Q (lw_Y6 h1 h2 h3 h4 h5 ⟨hb.1, hc⟩) (hn_RR g2) (fun e he => by
      cases he with
      | head => exact ⟨Nat.le_of_ble_eq_true rfl, m, 2, rfl, rfl, by decide, hn_I (Nat.le_of_ble_eq_true rfl) rfl⟩
      | tail _ he => cases he) ⟨_, _, rfl, ⟨Nat.le_of_ble_eq_true rfl, rfl⟩, _, _, rfl, ⟨_, rfl, hn_I (Nat.le_of_ble_eq_true rfl) rfl⟩, _, _, rfl, ⟨_, rfl, hn_I (Nat.le_of_ble_eq_true rfl) rfl⟩, _, _, rfl, ⟨_, rfl, hn_I (Nat.le_of_ble_eq_true rfl) rfl⟩, _, _, rfl, ⟨_, rfl, hn_I (Nat.le_of_ble_eq_true rfl) rfl⟩, _, _, rfl, ⟨_, rfl, hn_I (Nat.le_of_ble_eq_true rfl) rfl⟩, rfl⟩ hI (fun r M' i f ⟨po, hpo, h⟩ => ?_)
    cases hpo with
    | head =>
      obtain ⟨⟨z, rfl, hz⟩, hm⟩ := h
      obtain ⟨a, ha, hx⟩ := hm _ (List.Mem.head _)
      cases ha
      have hz : z = M.1 m 2 + 20 := hz
      subst hz
      exact hQ1 hc M' (hV.fr i f (by decide +kernel)) hx (f tp 1 (by rw [g3]; exact hn_nt (by decide +kernel))).1 f
    | tail _ hpo => cases hpo
  · skip
    refine xo_X12_feed_hi (d + 30) (Nat.le_trans (by decide +kernel : ab_h cx_X12_feed_hi ≤ 30) (Nat.le_add_left 30 d)) G M (6, hn_g [z1, z2, z3, z4, z5, M.1 m 2], 1, fun _ => some m) _ Q (lw_Y6 h1 h2 h3 h4 h5 ⟨by show (921 : Int) ≤ _; omega, hb.2⟩) (hn_RR g2) (fun e he => by
      cases he with
      | head => exact ⟨Nat.le_of_ble_eq_true rfl, m, 2, rfl, rfl, by decide, hn_I (Nat.le_of_ble_eq_true rfl) rfl⟩
      | tail _ he => cases he) ⟨_, _, rfl, ⟨Nat.le_of_ble_eq_true rfl, rfl⟩, _, _, rfl, ⟨_, rfl, hn_I (Nat.le_of_ble_eq_true rfl) rfl⟩, _, _, rfl, ⟨_, rfl, hn_I (Nat.le_of_ble_eq_true rfl) rfl⟩, _, _, rfl, ⟨_, rfl, hn_I (Nat.le_of_ble_eq_true rfl) rfl⟩, _, _, rfl, ⟨_, rfl, hn_I (Nat.le_of_ble_eq_true rfl) rfl⟩, _, _, rfl, ⟨_, rfl, hn_I (Nat.le_of_ble_eq_true rfl) rfl⟩, rfl⟩ hI (fun r M' i f ⟨po, hpo, h⟩ => ?_)
    cases hpo with
    | head =>
      obtain ⟨⟨z, rfl, hz⟩, hm⟩ := h
      obtain ⟨a, ha, hx⟩ := hm _ (List.Mem.head _)
      cases ha
      have hz : z = -1 := hz
      subst hz
      have hx : M'.1 m 2 = M.1 m 2 + 0 := hx
      exact hQ2 (by omega) M' (hV.fr i f (by decide +kernel)) (by omega) (f tp 1 (by rw [g3]; exact hn_nt (by decide +kernel))).1 f
    | tail _ hpo => cases hpo
