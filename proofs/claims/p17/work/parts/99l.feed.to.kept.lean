section
/-! ===== feed of both sides ===== -/
theorem lw_Y6 {z1 z2 z3 z4 z5 z6 lo hi : Int} {q : Nat × (Nat → Option Nat)} (h1 : mj_in z1) (h2 : mj_in z2) (h3 : mj_in z3) (h4 : mj_in z4) (h5 : mj_in z5) (h6 : lo ≤ z6 ∧ z6 ≤ hi) : ab_RY (6, hn_g [z1, z2, z3, z4, z5, z6], q) [lw_yy, lw_yy, lw_yy, lw_yy, lw_yy, (lo, hi, [])] := hn_Y (zs := [z1, z2, z3, z4, z5, z6]) rfl (fun i lo hi r e => by
  cases i with
  | zero => cases e; exact ⟨rfl, hn_ii h1⟩
  | succ i => cases i with
    | zero => cases e; exact ⟨rfl, hn_ii h2⟩
    | succ i => cases i with
      | zero => cases e; exact ⟨rfl, hn_ii h3⟩
      | succ i => cases i with
        | zero => cases e; exact ⟨rfl, hn_ii h4⟩
        | succ i => cases i with
          | zero => cases e; exact ⟨rfl, hn_ii h5⟩
          | succ i => cases i with
            | zero => cases e; exact ⟨rfl, h6⟩
            | succ i => cases e)
theorem lc_X11_feed {d x m tp s kp : Nat} {z1 z2 z3 z4 z5 : Int} {G : mj_G} {M : mj_M} {Q : mj_P} (hV : lw_V G M x m tp s kp) (h1 : mj_in z1) (h2 : mj_in z2) (h3 : mj_in z3) (h4 : mj_in z4) (h5 : mj_in z5) (hQ1 : M.1 tp 1 ≤ 920 → ∀ M', lw_V G M' x m tp s kp → M'.1 tp 1 = M.1 tp 1 + 20 → M'.1 m 2 = M.1 m 2 → ab_frm (ab_w cx_X11_feed_lo) G M M' → Q (some (.inl (M.1 tp 1 + 20))) G M') (hQ2 : 921 ≤ M.1 tp 1 → ∀ M', lw_V G M' x m tp s kp → M'.1 tp 1 = M.1 tp 1 → M'.1 m 2 = M.1 m 2 → ab_frm (ab_w cx_X11_feed_hi) G M M' → Q (some (.inl (-1))) G M') : mj_R mj_tab (d + 31) 124 [.inr (.inr (some x)), .inl z1, .inl z2, .inl z3, .inl z4, .inl z5] G M Q := by
  obtain ⟨hI, ⟨g1, g2, g3, g4, g5⟩, ⟨r1, r2, r3⟩, -⟩ := id hV
  have hb : 0 ≤ M.1 tp 1 ∧ M.1 tp 1 ≤ 940 := by
    have := hI.1 tp 1
    rw [g3] at this
    exact this
  by_cases hc : M.1 tp 1 ≤ 920
  · skip
    refine xo_X11_feed_lo (d + 30) (Nat.le_trans (by decide +kernel : ab_h cx_X11_feed_lo ≤ 30) (Nat.le_add_left 30 d)) G M (6, hn_g [z1, z2, z3, z4, z5, M.1 tp 1], 2, lw_w2 x tp) _ Q (lw_Y6 h1 h2 h3 h4 h5 ⟨hb.1, hc⟩) (lw_R2 g1 g3) (fun e he => by
      cases he with
      | head => exact ⟨Nat.le_of_ble_eq_true rfl, x, 0, rfl, rfl, by decide, Nat.le_of_ble_eq_true rfl, r1⟩
      | tail _ he => cases he with
        | head => exact ⟨Nat.le_of_ble_eq_true rfl, tp, 1, rfl, rfl, by decide, hn_I (Nat.le_of_ble_eq_true rfl) rfl⟩
        | tail _ he => cases he) ⟨_, _, rfl, ⟨Nat.le_of_ble_eq_true rfl, rfl⟩, _, _, rfl, ⟨_, rfl, hn_I (Nat.le_of_ble_eq_true rfl) rfl⟩, _, _, rfl, ⟨_, rfl, hn_I (Nat.le_of_ble_eq_true rfl) rfl⟩, _, _, rfl, ⟨_, rfl, hn_I (Nat.le_of_ble_eq_true rfl) rfl⟩, _, _, rfl, ⟨_, rfl, hn_I (Nat.le_of_ble_eq_true rfl) rfl⟩, _, _, rfl, ⟨_, rfl, hn_I (Nat.le_of_ble_eq_true rfl) rfl⟩, rfl⟩ hI (fun r M' i f ⟨po, hpo, h⟩ => ?_)
    cases hpo with
    | head =>
      obtain ⟨⟨z, rfl, hz⟩, hm⟩ := h
      obtain ⟨a, ha, hx⟩ := hm _ (List.Mem.head _)
      cases ha
      have hz : z = M.1 tp 1 + 20 := hz
      subst hz
      exact hQ1 hc M' (hV.fr i f (by decide +kernel)) hx (f m 2 (by rw [g2]; exact hn_nt (by decide +kernel))).1 f
    | tail _ hpo => cases hpo
  · skip
    refine xo_X11_feed_hi (d + 30) (Nat.le_trans (by decide +kernel : ab_h cx_X11_feed_hi ≤ 30) (Nat.le_add_left 30 d)) G M (6, hn_g [z1, z2, z3, z4, z5, M.1 tp 1], 2, lw_w2 x tp) _ Q (lw_Y6 h1 h2 h3 h4 h5 ⟨by show (921 : Int) ≤ _; omega, hb.2⟩) (lw_R2 g1 g3) (fun e he => by
      cases he with
      | head => exact ⟨Nat.le_of_ble_eq_true rfl, x, 0, rfl, rfl, by decide, Nat.le_of_ble_eq_true rfl, r1⟩
      | tail _ he => cases he with
        | head => exact ⟨Nat.le_of_ble_eq_true rfl, tp, 1, rfl, rfl, by decide, hn_I (Nat.le_of_ble_eq_true rfl) rfl⟩
        | tail _ he => cases he) ⟨_, _, rfl, ⟨Nat.le_of_ble_eq_true rfl, rfl⟩, _, _, rfl, ⟨_, rfl, hn_I (Nat.le_of_ble_eq_true rfl) rfl⟩, _, _, rfl, ⟨_, rfl, hn_I (Nat.le_of_ble_eq_true rfl) rfl⟩, _, _, rfl, ⟨_, rfl, hn_I (Nat.le_of_ble_eq_true rfl) rfl⟩, _, _, rfl, ⟨_, rfl, hn_I (Nat.le_of_ble_eq_true rfl) rfl⟩, _, _, rfl, ⟨_, rfl, hn_I (Nat.le_of_ble_eq_true rfl) rfl⟩, rfl⟩ hI (fun r M' i f ⟨po, hpo, h⟩ => ?_)
    cases hpo with
    | head =>
      obtain ⟨⟨z, rfl, hz⟩, hm⟩ := h
      obtain ⟨a, ha, hx⟩ := hm _ (List.Mem.head _)
      cases ha
      have hz : z = -1 := hz
      subst hz
      have hx : M'.1 tp 1 = M.1 tp 1 + 0 := hx
      exact hQ2 (by omega) M' (hV.fr i f (by decide +kernel)) (by omega) (f m 2 (by rw [g2]; exact hn_nt (by decide +kernel))).1 f
    | tail _ hpo => cases hpo
theorem lc_X12_feed {d x m tp s kp : Nat} {z1 z2 z3 z4 z5 : Int} {G : mj_G} {M : mj_M} {Q : mj_P} (hV : lw_V G M x m tp s kp) (h1 : mj_in z1) (h2 : mj_in z2) (h3 : mj_in z3) (h4 : mj_in z4) (h5 : mj_in z5) (hQ1 : M.1 m 2 ≤ 920 → ∀ M', lw_V G M' x m tp s kp → M'.1 m 2 = M.1 m 2 + 20 → M'.1 tp 1 = M.1 tp 1 → ab_frm (ab_w cx_X12_feed_lo) G M M' → Q (some (.inl (M.1 m 2 + 20))) G M') (hQ2 : 921 ≤ M.1 m 2 → ∀ M', lw_V G M' x m tp s kp → M'.1 m 2 = M.1 m 2 → M'.1 tp 1 = M.1 tp 1 → ab_frm (ab_w cx_X12_feed_hi) G M M' → Q (some (.inl (-1))) G M') : mj_R mj_tab (d + 31) 187 [.inr (.inr (some m)), .inl z1, .inl z2, .inl z3, .inl z4, .inl z5] G M Q := by
  obtain ⟨hI, ⟨g1, g2, g3, g4, g5⟩, ⟨r1, r2, r3⟩, -⟩ := id hV
  have hb : 0 ≤ M.1 m 2 ∧ M.1 m 2 ≤ 940 := by
    have := hI.1 m 2
    rw [g2] at this
    exact this
  by_cases hc : M.1 m 2 ≤ 920
  · skip
    refine xo_X12_feed_lo (d + 30) (Nat.le_trans (by decide +kernel : ab_h cx_X12_feed_lo ≤ 30) (Nat.le_add_left 30 d)) G M (6, hn_g [z1, z2, z3, z4, z5, M.1 m 2], 1, fun _ => some m) _ Q (lw_Y6 h1 h2 h3 h4 h5 ⟨hb.1, hc⟩) (hn_RR g2) (fun e he => by
      cases he with
      | head => exact ⟨Nat.le_of_ble_eq_true rfl, m, 2, rfl, rfl, by decide, hn_I (Nat.le_of_ble_eq_true rfl) rfl⟩
      | tail _ he => cases he) ⟨_, _, rfl, ⟨Nat.le_of_ble_eq_true rfl, rfl⟩, _, _, rfl, ⟨_, rfl, hn_I (Nat.le_of_ble_eq_true rfl) rfl⟩, _, _, rfl, ⟨_, rfl, hn_I (Nat.le_of_ble_eq_true rfl) rfl⟩, _, _, rfl, ⟨_, rfl, hn_I (Nat.le_of_ble_eq_true rfl) rfl⟩, _, _, rfl, ⟨_, rfl, hn_I (Nat.le_of_ble_eq_true rfl) rfl⟩, _, _, rfl, ⟨_, rfl, hn_I (Nat.le_of_ble_eq_true rfl) rfl⟩, rfl⟩ hI (fun r M' i f ⟨po, hpo, h⟩ => ?_)
    cases hpo with
    | head =>
      obtain ⟨⟨z, rfl, hz⟩, hm⟩ := h
      obtain ⟨a, ha, hx⟩ := hm _ (List.Mem.head _)
      cases ha
      have hz : z = M.1 m 2 + 20 := hz
      subst hz
      exact hQ1 hc M' (hV.fr i f (by decide +kernel)) hx (f tp 1 (by rw [g3]; exact hn_nt (by decide +kernel))).1 f
    | tail _ hpo => cases hpo
  · skip
    refine xo_X12_feed_hi (d + 30) (Nat.le_trans (by decide +kernel : ab_h cx_X12_feed_hi ≤ 30) (Nat.le_add_left 30 d)) G M (6, hn_g [z1, z2, z3, z4, z5, M.1 m 2], 1, fun _ => some m) _ Q (lw_Y6 h1 h2 h3 h4 h5 ⟨by show (921 : Int) ≤ _; omega, hb.2⟩) (hn_RR g2) (fun e he => by
      cases he with
      | head => exact ⟨Nat.le_of_ble_eq_true rfl, m, 2, rfl, rfl, by decide, hn_I (Nat.le_of_ble_eq_true rfl) rfl⟩
      | tail _ he => cases he) ⟨_, _, rfl, ⟨Nat.le_of_ble_eq_true rfl, rfl⟩, _, _, rfl, ⟨_, rfl, hn_I (Nat.le_of_ble_eq_true rfl) rfl⟩, _, _, rfl, ⟨_, rfl, hn_I (Nat.le_of_ble_eq_true rfl) rfl⟩, _, _, rfl, ⟨_, rfl, hn_I (Nat.le_of_ble_eq_true rfl) rfl⟩, _, _, rfl, ⟨_, rfl, hn_I (Nat.le_of_ble_eq_true rfl) rfl⟩, _, _, rfl, ⟨_, rfl, hn_I (Nat.le_of_ble_eq_true rfl) rfl⟩, rfl⟩ hI (fun r M' i f ⟨po, hpo, h⟩ => ?_)
    cases hpo with
    | head =>
      obtain ⟨⟨z, rfl, hz⟩, hm⟩ := h
      obtain ⟨a, ha, hx⟩ := hm _ (List.Mem.head _)
      cases ha
      have hz : z = -1 := hz
      subst hz
      have hx : M'.1 m 2 = M.1 m 2 + 0 := hx
      exact hQ2 (by omega) M' (hV.fr i f (by decide +kernel)) (by omega) (f tp 1 (by rw [g3]; exact hn_nt (by decide +kernel))).1 f
    | tail _ hpo => cases hpo
end
section
/-! ===== end of both sides ===== -/
theorem lc_X11_end {d x m tp s kp : Nat} {n : Int} {G : mj_G} {M : mj_M} {Q : mj_P} (hV : lw_V G M x m tp s kp) (hn : mj_in n) (hQ0 : (n < 0 ∨ M.1 tp 1 < n) → ∀ M', lw_V G M' x m tp s kp → M'.1 tp 1 = M.1 tp 1 → M'.1 m 2 = M.1 m 2 → ab_frm (ab_w cx_X11_end_neg) G M M' → Q (some (.inl 0)) G M') (hQ1 : 0 ≤ n → n ≤ M.1 tp 1 → ∀ M', lw_V G M' x m tp s kp → M'.1 tp 1 = n → M'.1 m 2 = M.1 m 2 → ab_frm (ab_w cx_X11_end_fit) G M M' → Q (some (.inl 1)) G M') : mj_R mj_tab (d + 31) (ab_y cx_X11_end_fit) [.inr (.inr (some x)), .inl n] G M Q := by
  obtain ⟨hI, ⟨g1, g2, g3, g4, g5⟩, ⟨r1, r2, r3⟩, -⟩ := id hV
  have hb : 0 ≤ M.1 tp 1 ∧ M.1 tp 1 ≤ 940 := by
    have := hI.1 tp 1
    rw [g3] at this
    exact this
  by_cases hc : n < 0
  · skip
    refine xo_X11_end_neg (d + 30) (Nat.le_trans (by decide +kernel : ab_h cx_X11_end_neg ≤ 30) (Nat.le_add_left 30 d)) G M (2, hn_g [n, M.1 tp 1], 2, lw_w2 x tp) _ Q ⟨rfl, fun i q e => by
      cases i with
      | zero => cases e; exact ⟨by show (-2147483648 : Int) ≤ n; exact hn.1, by show n ≤ (-1 : Int); omega, fun r hr => by cases hr⟩
      | succ i => cases i with
        | zero => cases e; exact ⟨by show (0 : Int) ≤ M.1 tp 1; omega, by show M.1 tp 1 ≤ (940 : Int); omega, fun r hr => by cases hr⟩
        | succ i => cases e⟩ (lw_R2 g1 g3) (fun e he => by
      cases he with
      | head => exact ⟨Nat.le_of_ble_eq_true rfl, x, 0, rfl, rfl, by decide, Nat.le_of_ble_eq_true rfl, r1⟩
      | tail _ he => cases he with
        | head => exact ⟨Nat.le_of_ble_eq_true rfl, tp, 1, rfl, rfl, by decide, hn_I (Nat.le_of_ble_eq_true rfl) rfl⟩
        | tail _ he => cases he) ⟨_, _, rfl, ⟨Nat.le_of_ble_eq_true rfl, rfl⟩, _, _, rfl, ⟨_, rfl, hn_I (Nat.le_of_ble_eq_true rfl) rfl⟩, rfl⟩ hI (fun r M' i f ⟨po, hpo, h⟩ => ?_)
    cases hpo with
    | head =>
      obtain ⟨⟨z, rfl, hz⟩, hm⟩ := h
      obtain ⟨a, ha, hx⟩ := hm _ (List.Mem.head _)
      cases ha
      have hz : z = 0 := hz
      subst hz
      have hx : M'.1 tp 1 = M.1 tp 1 + 0 := hx
      exact hQ0 (by omega) M' (hV.fr i f (by decide +kernel)) (by omega) (f m 2 (by rw [g2]; exact hn_nt (by decide +kernel))).1 f
    | tail _ hpo => cases hpo
  · by_cases hc2 : M.1 tp 1 < n
    · skip
      refine xo_X11_end_big (d + 30) (Nat.le_trans (by decide +kernel : ab_h cx_X11_end_big ≤ 30) (Nat.le_add_left 30 d)) G M (2, hn_g [n, M.1 tp 1], 2, lw_w2 x tp) _ Q ⟨rfl, fun i q e => by
        cases i with
        | zero => cases e; exact ⟨by show (1 : Int) ≤ n; omega, by show n ≤ (2147483647 : Int); have := hn.2; omega, fun r hr => by
          cases hr with
          | head => exact ⟨Nat.le_of_ble_eq_true rfl, by show M.1 tp 1 + 1 ≤ n; omega⟩
          | tail _ hr => cases hr⟩
        | succ i => cases i with
          | zero => cases e; exact ⟨by show (0 : Int) ≤ M.1 tp 1; omega, by show M.1 tp 1 ≤ (940 : Int); omega, fun r hr => by cases hr⟩
          | succ i => cases e⟩ (lw_R2 g1 g3) (fun e he => by
        cases he with
        | head => exact ⟨Nat.le_of_ble_eq_true rfl, x, 0, rfl, rfl, by decide, Nat.le_of_ble_eq_true rfl, r1⟩
        | tail _ he => cases he with
          | head => exact ⟨Nat.le_of_ble_eq_true rfl, tp, 1, rfl, rfl, by decide, hn_I (Nat.le_of_ble_eq_true rfl) rfl⟩
          | tail _ he => cases he) ⟨_, _, rfl, ⟨Nat.le_of_ble_eq_true rfl, rfl⟩, _, _, rfl, ⟨_, rfl, hn_I (Nat.le_of_ble_eq_true rfl) rfl⟩, rfl⟩ hI (fun r M' i f ⟨po, hpo, h⟩ => ?_)
      cases hpo with
      | head =>
        obtain ⟨⟨z, rfl, hz⟩, hm⟩ := h
        obtain ⟨a, ha, hx⟩ := hm _ (List.Mem.head _)
        cases ha
        have hz : z = 0 := hz
        subst hz
        have hx : M'.1 tp 1 = M.1 tp 1 + 0 := hx
        exact hQ0 (by omega) M' (hV.fr i f (by decide +kernel)) (by omega) (f m 2 (by rw [g2]; exact hn_nt (by decide +kernel))).1 f
      | tail _ hpo => cases hpo
    · skip
      refine xo_X11_end_fit (d + 30) (Nat.le_trans (by decide +kernel : ab_h cx_X11_end_fit ≤ 30) (Nat.le_add_left 30 d)) G M (2, hn_g [n, M.1 tp 1], 2, lw_w2 x tp) _ Q ⟨rfl, fun i q e => by
        cases i with
        | zero => cases e; exact ⟨by show (0 : Int) ≤ n; omega, by show n ≤ (940 : Int); omega, fun r hr => by cases hr⟩
        | succ i => cases i with
          | zero => cases e; exact ⟨by show (0 : Int) ≤ M.1 tp 1; omega, by show M.1 tp 1 ≤ (940 : Int); omega, fun r hr => by
          cases hr with
          | head => exact ⟨Nat.le_of_ble_eq_true rfl, by show n + 0 ≤ M.1 tp 1; omega⟩
          | tail _ hr => cases hr⟩
          | succ i => cases e⟩ (lw_R2 g1 g3) (fun e he => by
        cases he with
        | head => exact ⟨Nat.le_of_ble_eq_true rfl, x, 0, rfl, rfl, by decide, Nat.le_of_ble_eq_true rfl, r1⟩
        | tail _ he => cases he with
          | head => exact ⟨Nat.le_of_ble_eq_true rfl, tp, 1, rfl, rfl, by decide, hn_I (Nat.le_of_ble_eq_true rfl) rfl⟩
          | tail _ he => cases he) ⟨_, _, rfl, ⟨Nat.le_of_ble_eq_true rfl, rfl⟩, _, _, rfl, ⟨_, rfl, hn_I (Nat.le_of_ble_eq_true rfl) rfl⟩, rfl⟩ hI (fun r M' i f ⟨po, hpo, h⟩ => ?_)
      cases hpo with
      | head =>
        obtain ⟨⟨z, rfl, hz⟩, hm⟩ := h
        obtain ⟨a, ha, hx⟩ := hm _ (List.Mem.head _)
        cases ha
        have hz : z = 1 := hz
        subst hz
        have hx : M'.1 tp 1 = n + 0 := hx
        exact hQ1 (by omega) (by omega) M' (hV.fr i f (by decide +kernel)) (by omega) (f m 2 (by rw [g2]; exact hn_nt (by decide +kernel))).1 f
      | tail _ hpo => cases hpo
theorem lc_X12_end {d x m tp s kp : Nat} {n : Int} {G : mj_G} {M : mj_M} {Q : mj_P} (hV : lw_V G M x m tp s kp) (hn : mj_in n) (hQ0 : (n < 0 ∨ M.1 m 2 < n) → ∀ M', lw_V G M' x m tp s kp → M'.1 m 2 = M.1 m 2 → M'.1 tp 1 = M.1 tp 1 → ab_frm (ab_w cx_X12_end_neg) G M M' → Q (some (.inl 0)) G M') (hQ1 : 0 ≤ n → n ≤ M.1 m 2 → ∀ M', lw_V G M' x m tp s kp → M'.1 m 2 = n → M'.1 tp 1 = M.1 tp 1 → ab_frm (ab_w cx_X12_end_fit) G M M' → Q (some (.inl 1)) G M') : mj_R mj_tab (d + 31) (ab_y cx_X12_end_fit) [.inr (.inr (some m)), .inl n] G M Q := by
  obtain ⟨hI, ⟨g1, g2, g3, g4, g5⟩, ⟨r1, r2, r3⟩, -⟩ := id hV
  have hb : 0 ≤ M.1 m 2 ∧ M.1 m 2 ≤ 940 := by
    have := hI.1 m 2
    rw [g2] at this
    exact this
  by_cases hc : n < 0
  · skip
    refine xo_X12_end_neg (d + 30) (Nat.le_trans (by decide +kernel : ab_h cx_X12_end_neg ≤ 30) (Nat.le_add_left 30 d)) G M (2, hn_g [n, M.1 m 2], 1, fun _ => some m) _ Q ⟨rfl, fun i q e => by
      cases i with
      | zero => cases e; exact ⟨by show (-2147483648 : Int) ≤ n; exact hn.1, by show n ≤ (-1 : Int); omega, fun r hr => by cases hr⟩
      | succ i => cases i with
        | zero => cases e; exact ⟨by show (0 : Int) ≤ M.1 m 2; omega, by show M.1 m 2 ≤ (940 : Int); omega, fun r hr => by cases hr⟩
        | succ i => cases e⟩ (hn_RR g2) (fun e he => by
      cases he with
      | head => exact ⟨Nat.le_of_ble_eq_true rfl, m, 2, rfl, rfl, by decide, hn_I (Nat.le_of_ble_eq_true rfl) rfl⟩
      | tail _ he => cases he) ⟨_, _, rfl, ⟨Nat.le_of_ble_eq_true rfl, rfl⟩, _, _, rfl, ⟨_, rfl, hn_I (Nat.le_of_ble_eq_true rfl) rfl⟩, rfl⟩ hI (fun r M' i f ⟨po, hpo, h⟩ => ?_)
    cases hpo with
    | head =>
      obtain ⟨⟨z, rfl, hz⟩, hm⟩ := h
      obtain ⟨a, ha, hx⟩ := hm _ (List.Mem.head _)
      cases ha
      have hz : z = 0 := hz
      subst hz
      have hx : M'.1 m 2 = M.1 m 2 + 0 := hx
      exact hQ0 (by omega) M' (hV.fr i f (by decide +kernel)) (by omega) (f tp 1 (by rw [g3]; exact hn_nt (by decide +kernel))).1 f
    | tail _ hpo => cases hpo
  · by_cases hc2 : M.1 m 2 < n
    · skip
      refine xo_X12_end_big (d + 30) (Nat.le_trans (by decide +kernel : ab_h cx_X12_end_big ≤ 30) (Nat.le_add_left 30 d)) G M (2, hn_g [n, M.1 m 2], 1, fun _ => some m) _ Q ⟨rfl, fun i q e => by
        cases i with
        | zero => cases e; exact ⟨by show (1 : Int) ≤ n; omega, by show n ≤ (2147483647 : Int); have := hn.2; omega, fun r hr => by
          cases hr with
          | head => exact ⟨Nat.le_of_ble_eq_true rfl, by show M.1 m 2 + 1 ≤ n; omega⟩
          | tail _ hr => cases hr⟩
        | succ i => cases i with
          | zero => cases e; exact ⟨by show (0 : Int) ≤ M.1 m 2; omega, by show M.1 m 2 ≤ (940 : Int); omega, fun r hr => by cases hr⟩
          | succ i => cases e⟩ (hn_RR g2) (fun e he => by
        cases he with
        | head => exact ⟨Nat.le_of_ble_eq_true rfl, m, 2, rfl, rfl, by decide, hn_I (Nat.le_of_ble_eq_true rfl) rfl⟩
        | tail _ he => cases he) ⟨_, _, rfl, ⟨Nat.le_of_ble_eq_true rfl, rfl⟩, _, _, rfl, ⟨_, rfl, hn_I (Nat.le_of_ble_eq_true rfl) rfl⟩, rfl⟩ hI (fun r M' i f ⟨po, hpo, h⟩ => ?_)
      cases hpo with
      | head =>
        obtain ⟨⟨z, rfl, hz⟩, hm⟩ := h
        obtain ⟨a, ha, hx⟩ := hm _ (List.Mem.head _)
        cases ha
        have hz : z = 0 := hz
        subst hz
        have hx : M'.1 m 2 = M.1 m 2 + 0 := hx
        exact hQ0 (by omega) M' (hV.fr i f (by decide +kernel)) (by omega) (f tp 1 (by rw [g3]; exact hn_nt (by decide +kernel))).1 f
      | tail _ hpo => cases hpo
    · skip
      refine xo_X12_end_fit (d + 30) (Nat.le_trans (by decide +kernel : ab_h cx_X12_end_fit ≤ 30) (Nat.le_add_left 30 d)) G M (2, hn_g [n, M.1 m 2], 1, fun _ => some m) _ Q ⟨rfl, fun i q e => by
        cases i with
        | zero => cases e; exact ⟨by show (0 : Int) ≤ n; omega, by show n ≤ (940 : Int); omega, fun r hr => by cases hr⟩
        | succ i => cases i with
          | zero => cases e; exact ⟨by show (0 : Int) ≤ M.1 m 2; omega, by show M.1 m 2 ≤ (940 : Int); omega, fun r hr => by
          cases hr with
          | head => exact ⟨Nat.le_of_ble_eq_true rfl, by show n + 0 ≤ M.1 m 2; omega⟩
          | tail _ hr => cases hr⟩
          | succ i => cases e⟩ (hn_RR g2) (fun e he => by
        cases he with
        | head => exact ⟨Nat.le_of_ble_eq_true rfl, m, 2, rfl, rfl, by decide, hn_I (Nat.le_of_ble_eq_true rfl) rfl⟩
        | tail _ he => cases he) ⟨_, _, rfl, ⟨Nat.le_of_ble_eq_true rfl, rfl⟩, _, _, rfl, ⟨_, rfl, hn_I (Nat.le_of_ble_eq_true rfl) rfl⟩, rfl⟩ hI (fun r M' i f ⟨po, hpo, h⟩ => ?_)
      cases hpo with
      | head =>
        obtain ⟨⟨z, rfl, hz⟩, hm⟩ := h
        obtain ⟨a, ha, hx⟩ := hm _ (List.Mem.head _)
        cases ha
        have hz : z = 1 := hz
        subst hz
        have hx : M'.1 m 2 = n + 0 := hx
        exact hQ1 (by omega) (by omega) M' (hV.fr i f (by decide +kernel)) (by omega) (f tp 1 (by rw [g3]; exact hn_nt (by decide +kernel))).1 f
      | tail _ hpo => cases hpo
end
section
/-! ===== the class's image and restore: their answers, what is kept (laid by a program) ===== -/
theorem lw_R2k {G : mj_G} {x kc n : Nat} {f : Nat → Int} (hx : G x = (1011, 0)) (ht : G kc = (48102, 2)) : ab_RR (n, f, 2, lw_w2 x kc) G [(1011, 0), (48102, 2)] := ⟨rfl, fun i q h => by
  cases i with
  | zero =>
    cases h
    exact Or.inr (Or.inr (Or.inr ⟨by decide, by decide, by decide, x, rfl, hx⟩))
  | succ i => cases i with
    | zero =>
      cases h
      exact Or.inr (Or.inr (Or.inr ⟨by decide, by decide, by decide, kc, rfl, ht⟩))
    | succ i => cases h⟩
theorem lc_X11_image2 {d x m tp s kp kc : Nat} {z1 : Int} {G : mj_G} {M : mj_M} {Q : mj_P} (hV : lw_V G M x m tp s kp) (hz1 : mj_in z1) (hkc : G kc = (48102, 2)) (h4 : M.2.2 x 4 = some kc) (hQ : ∀ z M', lw_V G M' x m tp s kp → (M'.1 tp 1 = M.1 tp 1 ∧ M'.1 m 2 = M.1 m 2) → ab_frm (ab_w cd_111) G M M' → ((¬ (0 ≤ z1 ∧ z1 ≤ 1) ∧ z = 0 ∧ M'.1 kc 0 = M.1 kc 0 ∧ M'.1 kc 1 = M.1 kc 1) ∨ (z1 = 0 ∧ z = 1 ∧ M'.1 kc 0 = 1 ∧ M'.1 kc 1 = M.1 kc 1) ∨ (z1 = 1 ∧ z = 1 ∧ M'.1 kc 0 = M.1 kc 0 ∧ M'.1 kc 1 = 1)) → Q (some (.inl z)) G M') : mj_R mj_tab (d + 31) 127 [.inr (.inr (some x)), .inl z1] G M Q := by
  obtain ⟨hI, ⟨g1, g2, g3, g4, g5⟩, ⟨r1, r2, r3⟩, -⟩ := id hV
  have b0 : 0 ≤ M.1 kc 0 ∧ M.1 kc 0 ≤ 1 := by
    have := hI.1 kc 0
    rw [hkc] at this
    exact this
  have b1 : 0 ≤ M.1 kc 1 ∧ M.1 kc 1 ≤ 1 := by
    have := hI.1 kc 1
    rw [hkc] at this
    exact this
  have z0 := hz1.1
  have z9 := hz1.2
  by_cases c1 : z1 < 0
  · skip
    refine xo_X11_image_neg (d + 30) (Nat.le_trans (by decide +kernel : ab_h cx_X11_image_neg ≤ 30) (Nat.le_add_left 30 d)) G M (3, hn_g [z1, M.1 kc 0, M.1 kc 1], 2, lw_w2 x kc) _ Q ⟨rfl, fun i q e => by
      cases i with
      | zero => cases e; exact ⟨by show (-2147483648 : Int) ≤ z1; omega, by show z1 ≤ (-1 : Int); omega, fun r hr => by cases hr⟩
      | succ i =>
        cases i with
        | zero => cases e; exact ⟨by show (0 : Int) ≤ M.1 kc 0; omega, by show M.1 kc 0 ≤ (1 : Int); omega, fun r hr => by cases hr⟩
        | succ i =>
          cases i with
          | zero => cases e; exact ⟨by show (0 : Int) ≤ M.1 kc 1; omega, by show M.1 kc 1 ≤ (1 : Int); omega, fun r hr => by cases hr⟩
          | succ i =>
            cases e⟩ (lw_R2k g1 hkc) (fun e he => by
      cases he with
      | head => exact ⟨Nat.le_of_ble_eq_true rfl, x, 4, rfl, rfl, by decide, Nat.le_of_ble_eq_true rfl, h4⟩
      | tail _ he => cases he with
        | head => exact ⟨Nat.le_of_ble_eq_true rfl, kc, 0, rfl, rfl, by decide, hn_I (Nat.le_of_ble_eq_true rfl) rfl⟩
        | tail _ he => cases he with
          | head => exact ⟨Nat.le_of_ble_eq_true rfl, kc, 1, rfl, rfl, by decide, hn_I (Nat.le_of_ble_eq_true rfl) rfl⟩
          | tail _ he => cases he) ⟨_, _, rfl, ⟨Nat.le_of_ble_eq_true rfl, rfl⟩, _, _, rfl, ⟨_, rfl, hn_I (Nat.le_of_ble_eq_true rfl) rfl⟩, rfl⟩ hI (fun r M' i f ⟨po, hpo, h⟩ => ?_)
    cases hpo with
    | head =>
      obtain ⟨⟨z, rfl, hz⟩, hm⟩ := h
      obtain ⟨a, ha, hx0⟩ := hm _ (List.Mem.head _)
      cases ha
      obtain ⟨a, ha, hx1⟩ := hm _ (List.Mem.tail _ (List.Mem.head _))
      cases ha
      have hz : z = 0 := hz
      subst hz
      have hx0 : M'.1 kc 0 = M.1 kc 0 + 0 := hx0
      have hx1 : M'.1 kc 1 = M.1 kc 1 + 0 := hx1
      exact hQ 0 M' (hV.fr i f (by decide +kernel)) (hV.sz f (by decide +kernel)) (hn_up f (by decide +kernel)) (Or.inl ⟨by omega, rfl, by omega, by omega⟩)
    | tail _ hpo => cases hpo
  · by_cases c2 : z1 = 0
    · skip
      refine xo_X11_image_0 (d + 30) (Nat.le_trans (by decide +kernel : ab_h cx_X11_image_0 ≤ 30) (Nat.le_add_left 30 d)) G M (2, hn_g [M.1 kc 0, M.1 kc 1], 2, lw_w2 x kc) _ Q ⟨rfl, fun i q e => by
        cases i with
        | zero => cases e; exact ⟨by show (0 : Int) ≤ M.1 kc 0; omega, by show M.1 kc 0 ≤ (1 : Int); omega, fun r hr => by cases hr⟩
        | succ i =>
          cases i with
          | zero => cases e; exact ⟨by show (0 : Int) ≤ M.1 kc 1; omega, by show M.1 kc 1 ≤ (1 : Int); omega, fun r hr => by cases hr⟩
          | succ i =>
            cases e⟩ (lw_R2k g1 hkc) (fun e he => by
        cases he with
        | head => exact ⟨Nat.le_of_ble_eq_true rfl, x, 4, rfl, rfl, by decide, Nat.le_of_ble_eq_true rfl, h4⟩
        | tail _ he => cases he with
          | head => exact ⟨Nat.le_of_ble_eq_true rfl, kc, 0, rfl, rfl, by decide, hn_I (Nat.le_of_ble_eq_true rfl) rfl⟩
          | tail _ he => cases he with
            | head => exact ⟨Nat.le_of_ble_eq_true rfl, kc, 1, rfl, rfl, by decide, hn_I (Nat.le_of_ble_eq_true rfl) rfl⟩
            | tail _ he => cases he) ⟨_, _, rfl, ⟨Nat.le_of_ble_eq_true rfl, rfl⟩, _, _, rfl, ⟨_, rfl, (show (0 : Int) = z1 by omega)⟩, rfl⟩ hI (fun r M' i f ⟨po, hpo, h⟩ => ?_)
      cases hpo with
      | head =>
        obtain ⟨⟨z, rfl, hz⟩, hm⟩ := h
        obtain ⟨a, ha, hx0⟩ := hm _ (List.Mem.head _)
        cases ha
        obtain ⟨a, ha, hx1⟩ := hm _ (List.Mem.tail _ (List.Mem.head _))
        cases ha
        have hz : z = 1 := hz
        subst hz
        have hx0 : M'.1 kc 0 = 1 := hx0
        have hx1 : M'.1 kc 1 = M.1 kc 1 + 0 := hx1
        exact hQ 1 M' (hV.fr i f (by decide +kernel)) (hV.sz f (by decide +kernel)) (hn_up f (by decide +kernel)) (Or.inr (Or.inl ⟨c2, rfl, hx0, by omega⟩))
      | tail _ hpo => cases hpo
    · by_cases c3 : z1 = 1
      · skip
        refine xo_X11_image_1 (d + 30) (Nat.le_trans (by decide +kernel : ab_h cx_X11_image_1 ≤ 30) (Nat.le_add_left 30 d)) G M (2, hn_g [M.1 kc 0, M.1 kc 1], 2, lw_w2 x kc) _ Q ⟨rfl, fun i q e => by
          cases i with
          | zero => cases e; exact ⟨by show (0 : Int) ≤ M.1 kc 0; omega, by show M.1 kc 0 ≤ (1 : Int); omega, fun r hr => by cases hr⟩
          | succ i =>
            cases i with
            | zero => cases e; exact ⟨by show (0 : Int) ≤ M.1 kc 1; omega, by show M.1 kc 1 ≤ (1 : Int); omega, fun r hr => by cases hr⟩
            | succ i =>
              cases e⟩ (lw_R2k g1 hkc) (fun e he => by
          cases he with
          | head => exact ⟨Nat.le_of_ble_eq_true rfl, x, 4, rfl, rfl, by decide, Nat.le_of_ble_eq_true rfl, h4⟩
          | tail _ he => cases he with
            | head => exact ⟨Nat.le_of_ble_eq_true rfl, kc, 0, rfl, rfl, by decide, hn_I (Nat.le_of_ble_eq_true rfl) rfl⟩
            | tail _ he => cases he with
              | head => exact ⟨Nat.le_of_ble_eq_true rfl, kc, 1, rfl, rfl, by decide, hn_I (Nat.le_of_ble_eq_true rfl) rfl⟩
              | tail _ he => cases he) ⟨_, _, rfl, ⟨Nat.le_of_ble_eq_true rfl, rfl⟩, _, _, rfl, ⟨_, rfl, (show (1 : Int) = z1 by omega)⟩, rfl⟩ hI (fun r M' i f ⟨po, hpo, h⟩ => ?_)
        cases hpo with
        | head =>
          obtain ⟨⟨z, rfl, hz⟩, hm⟩ := h
          obtain ⟨a, ha, hx0⟩ := hm _ (List.Mem.head _)
          cases ha
          obtain ⟨a, ha, hx1⟩ := hm _ (List.Mem.tail _ (List.Mem.head _))
          cases ha
          have hz : z = 1 := hz
          subst hz
          have hx0 : M'.1 kc 0 = M.1 kc 0 + 0 := hx0
          have hx1 : M'.1 kc 1 = 1 := hx1
          exact hQ 1 M' (hV.fr i f (by decide +kernel)) (hV.sz f (by decide +kernel)) (hn_up f (by decide +kernel)) (Or.inr (Or.inr ⟨c3, rfl, by omega, hx1⟩))
        | tail _ hpo => cases hpo
      · skip
        refine xo_X11_image_big (d + 30) (Nat.le_trans (by decide +kernel : ab_h cx_X11_image_big ≤ 30) (Nat.le_add_left 30 d)) G M (3, hn_g [z1, M.1 kc 0, M.1 kc 1], 2, lw_w2 x kc) _ Q ⟨rfl, fun i q e => by
          cases i with
          | zero => cases e; exact ⟨by show (2 : Int) ≤ z1; omega, by show z1 ≤ (2147483647 : Int); omega, fun r hr => by cases hr⟩
          | succ i =>
            cases i with
            | zero => cases e; exact ⟨by show (0 : Int) ≤ M.1 kc 0; omega, by show M.1 kc 0 ≤ (1 : Int); omega, fun r hr => by cases hr⟩
            | succ i =>
              cases i with
              | zero => cases e; exact ⟨by show (0 : Int) ≤ M.1 kc 1; omega, by show M.1 kc 1 ≤ (1 : Int); omega, fun r hr => by cases hr⟩
              | succ i =>
                cases e⟩ (lw_R2k g1 hkc) (fun e he => by
          cases he with
          | head => exact ⟨Nat.le_of_ble_eq_true rfl, x, 4, rfl, rfl, by decide, Nat.le_of_ble_eq_true rfl, h4⟩
          | tail _ he => cases he with
            | head => exact ⟨Nat.le_of_ble_eq_true rfl, kc, 0, rfl, rfl, by decide, hn_I (Nat.le_of_ble_eq_true rfl) rfl⟩
            | tail _ he => cases he with
              | head => exact ⟨Nat.le_of_ble_eq_true rfl, kc, 1, rfl, rfl, by decide, hn_I (Nat.le_of_ble_eq_true rfl) rfl⟩
              | tail _ he => cases he) ⟨_, _, rfl, ⟨Nat.le_of_ble_eq_true rfl, rfl⟩, _, _, rfl, ⟨_, rfl, hn_I (Nat.le_of_ble_eq_true rfl) rfl⟩, rfl⟩ hI (fun r M' i f ⟨po, hpo, h⟩ => ?_)
        cases hpo with
        | head =>
          obtain ⟨⟨z, rfl, hz⟩, hm⟩ := h
          obtain ⟨a, ha, hx0⟩ := hm _ (List.Mem.head _)
          cases ha
          obtain ⟨a, ha, hx1⟩ := hm _ (List.Mem.tail _ (List.Mem.head _))
          cases ha
          have hz : z = 0 := hz
          subst hz
          have hx0 : M'.1 kc 0 = M.1 kc 0 + 0 := hx0
          have hx1 : M'.1 kc 1 = M.1 kc 1 + 0 := hx1
          exact hQ 0 M' (hV.fr i f (by decide +kernel)) (hV.sz f (by decide +kernel)) (hn_up f (by decide +kernel)) (Or.inl ⟨by omega, rfl, by omega, by omega⟩)
        | tail _ hpo => cases hpo
theorem lc_X11_restore2 {d x m tp s kp kc : Nat} {z1 : Int} {G : mj_G} {M : mj_M} {Q : mj_P} (hV : lw_V G M x m tp s kp) (hz1 : mj_in z1) (hkc : G kc = (48102, 2)) (h4 : M.2.2 x 4 = some kc) (hQ : ∀ z M', lw_V G M' x m tp s kp → (M'.1 tp 1 = M.1 tp 1 ∧ M'.1 m 2 = M.1 m 2) → ab_frm (ab_w cd_112) G M M' → ((((¬ (0 ≤ z1 ∧ z1 ≤ 1)) ∨ (z1 = 0 ∧ M.1 kc 0 = 0) ∨ (z1 = 1 ∧ M.1 kc 1 = 0)) ∧ z = 0) ∨ (((z1 = 0 ∧ M.1 kc 0 = 1) ∨ (z1 = 1 ∧ M.1 kc 1 = 1)) ∧ z = 1)) → Q (some (.inl z)) G M') : mj_R mj_tab (d + 31) 144 [.inr (.inr (some x)), .inl z1] G M Q := by
  obtain ⟨hI, ⟨g1, g2, g3, g4, g5⟩, ⟨r1, r2, r3⟩, -⟩ := id hV
  have b0 : 0 ≤ M.1 kc 0 ∧ M.1 kc 0 ≤ 1 := by
    have := hI.1 kc 0
    rw [hkc] at this
    exact this
  have b1 : 0 ≤ M.1 kc 1 ∧ M.1 kc 1 ≤ 1 := by
    have := hI.1 kc 1
    rw [hkc] at this
    exact this
  have z0 := hz1.1
  have z9 := hz1.2
  by_cases c1 : z1 < 0
  · skip
    refine xo_X11_restore_neg (d + 30) (Nat.le_trans (by decide +kernel : ab_h cx_X11_restore_neg ≤ 30) (Nat.le_add_left 30 d)) G M (3, hn_g [z1, M.1 kc 0, M.1 kc 1], 2, lw_w2 x kc) _ Q ⟨rfl, fun i q e => by
      cases i with
      | zero => cases e; exact ⟨by show (-2147483648 : Int) ≤ z1; omega, by show z1 ≤ (-1 : Int); omega, fun r hr => by cases hr⟩
      | succ i =>
        cases i with
        | zero => cases e; exact ⟨by show (0 : Int) ≤ M.1 kc 0; omega, by show M.1 kc 0 ≤ (1 : Int); omega, fun r hr => by cases hr⟩
        | succ i =>
          cases i with
          | zero => cases e; exact ⟨by show (0 : Int) ≤ M.1 kc 1; omega, by show M.1 kc 1 ≤ (1 : Int); omega, fun r hr => by cases hr⟩
          | succ i =>
            cases e⟩ (lw_R2k g1 hkc) (fun e he => by
      cases he with
      | head => exact ⟨Nat.le_of_ble_eq_true rfl, x, 4, rfl, rfl, by decide, Nat.le_of_ble_eq_true rfl, h4⟩
      | tail _ he => cases he with
        | head => exact ⟨Nat.le_of_ble_eq_true rfl, kc, 0, rfl, rfl, by decide, hn_I (Nat.le_of_ble_eq_true rfl) rfl⟩
        | tail _ he => cases he with
          | head => exact ⟨Nat.le_of_ble_eq_true rfl, kc, 1, rfl, rfl, by decide, hn_I (Nat.le_of_ble_eq_true rfl) rfl⟩
          | tail _ he => cases he) ⟨_, _, rfl, ⟨Nat.le_of_ble_eq_true rfl, rfl⟩, _, _, rfl, ⟨_, rfl, hn_I (Nat.le_of_ble_eq_true rfl) rfl⟩, rfl⟩ hI (fun r M' i f ⟨po, hpo, h⟩ => ?_)
    cases hpo with
    | head =>
      obtain ⟨⟨z, rfl, hz⟩, hm⟩ := h
      obtain ⟨a, ha, hx0⟩ := hm _ (List.Mem.head _)
      cases ha
      obtain ⟨a, ha, hx1⟩ := hm _ (List.Mem.tail _ (List.Mem.head _))
      cases ha
      have hz : z = 0 := hz
      subst hz
      have hx0 : M'.1 kc 0 = M.1 kc 0 + 0 := hx0
      have hx1 : M'.1 kc 1 = M.1 kc 1 + 0 := hx1
      exact hQ 0 M' (hV.fr i f (by decide +kernel)) (hV.sz f (by decide +kernel)) (hn_up f (by decide +kernel)) (Or.inl ⟨by omega, rfl⟩)
    | tail _ hpo => cases hpo
  · by_cases c2 : z1 = 0
    · by_cases c3 : M.1 kc 0 = 0
      · skip
        refine xo_X11_restore_00 (d + 30) (Nat.le_trans (by decide +kernel : ab_h cx_X11_restore_00 ≤ 30) (Nat.le_add_left 30 d)) G M (1, hn_g [M.1 kc 1], 2, lw_w2 x kc) _ Q ⟨rfl, fun i q e => by
          cases i with
          | zero => cases e; exact ⟨by show (0 : Int) ≤ M.1 kc 1; omega, by show M.1 kc 1 ≤ (1 : Int); omega, fun r hr => by cases hr⟩
          | succ i =>
            cases e⟩ (lw_R2k g1 hkc) (fun e he => by
          cases he with
          | head => exact ⟨Nat.le_of_ble_eq_true rfl, x, 4, rfl, rfl, by decide, Nat.le_of_ble_eq_true rfl, h4⟩
          | tail _ he => cases he with
            | head => exact ⟨Nat.le_of_ble_eq_true rfl, kc, 0, rfl, rfl, by decide, (show (0 : Int) = M.1 kc 0 by omega)⟩
            | tail _ he => cases he with
              | head => exact ⟨Nat.le_of_ble_eq_true rfl, kc, 1, rfl, rfl, by decide, hn_I (Nat.le_of_ble_eq_true rfl) rfl⟩
              | tail _ he => cases he) ⟨_, _, rfl, ⟨Nat.le_of_ble_eq_true rfl, rfl⟩, _, _, rfl, ⟨_, rfl, (show (0 : Int) = z1 by omega)⟩, rfl⟩ hI (fun r M' i f ⟨po, hpo, h⟩ => ?_)
        cases hpo with
        | head =>
          obtain ⟨⟨z, rfl, hz⟩, hm⟩ := h
          obtain ⟨a, ha, hx0⟩ := hm _ (List.Mem.head _)
          cases ha
          obtain ⟨a, ha, hx1⟩ := hm _ (List.Mem.tail _ (List.Mem.head _))
          cases ha
          have hz : z = 0 := hz
          subst hz
          have hx0 : M'.1 kc 0 = 0 := hx0
          have hx1 : M'.1 kc 1 = M.1 kc 1 + 0 := hx1
          exact hQ 0 M' (hV.fr i f (by decide +kernel)) (hV.sz f (by decide +kernel)) (hn_up f (by decide +kernel)) (Or.inl ⟨by omega, rfl⟩)
        | tail _ hpo => cases hpo
      · skip
        refine xo_X11_restore_01 (d + 30) (Nat.le_trans (by decide +kernel : ab_h cx_X11_restore_01 ≤ 30) (Nat.le_add_left 30 d)) G M (1, hn_g [M.1 kc 1], 2, lw_w2 x kc) _ Q ⟨rfl, fun i q e => by
          cases i with
          | zero => cases e; exact ⟨by show (0 : Int) ≤ M.1 kc 1; omega, by show M.1 kc 1 ≤ (1 : Int); omega, fun r hr => by cases hr⟩
          | succ i =>
            cases e⟩ (lw_R2k g1 hkc) (fun e he => by
          cases he with
          | head => exact ⟨Nat.le_of_ble_eq_true rfl, x, 4, rfl, rfl, by decide, Nat.le_of_ble_eq_true rfl, h4⟩
          | tail _ he => cases he with
            | head => exact ⟨Nat.le_of_ble_eq_true rfl, kc, 0, rfl, rfl, by decide, (show (1 : Int) = M.1 kc 0 by omega)⟩
            | tail _ he => cases he with
              | head => exact ⟨Nat.le_of_ble_eq_true rfl, kc, 1, rfl, rfl, by decide, hn_I (Nat.le_of_ble_eq_true rfl) rfl⟩
              | tail _ he => cases he) ⟨_, _, rfl, ⟨Nat.le_of_ble_eq_true rfl, rfl⟩, _, _, rfl, ⟨_, rfl, (show (0 : Int) = z1 by omega)⟩, rfl⟩ hI (fun r M' i f ⟨po, hpo, h⟩ => ?_)
        cases hpo with
        | head =>
          obtain ⟨⟨z, rfl, hz⟩, hm⟩ := h
          obtain ⟨a, ha, hx0⟩ := hm _ (List.Mem.head _)
          cases ha
          obtain ⟨a, ha, hx1⟩ := hm _ (List.Mem.tail _ (List.Mem.head _))
          cases ha
          have hz : z = 1 := hz
          subst hz
          have hx0 : M'.1 kc 0 = 1 := hx0
          have hx1 : M'.1 kc 1 = M.1 kc 1 + 0 := hx1
          exact hQ 1 M' (hV.fr i f (by decide +kernel)) (hV.sz f (by decide +kernel)) (hn_up f (by decide +kernel)) (Or.inr ⟨by omega, rfl⟩)
        | tail _ hpo => cases hpo
    · by_cases c4 : z1 = 1
      · by_cases c3 : M.1 kc 1 = 0
        · skip
          refine xo_X11_restore_10 (d + 30) (Nat.le_trans (by decide +kernel : ab_h cx_X11_restore_10 ≤ 30) (Nat.le_add_left 30 d)) G M (1, hn_g [M.1 kc 0], 2, lw_w2 x kc) _ Q ⟨rfl, fun i q e => by
            cases i with
            | zero => cases e; exact ⟨by show (0 : Int) ≤ M.1 kc 0; omega, by show M.1 kc 0 ≤ (1 : Int); omega, fun r hr => by cases hr⟩
            | succ i =>
              cases e⟩ (lw_R2k g1 hkc) (fun e he => by
            cases he with
            | head => exact ⟨Nat.le_of_ble_eq_true rfl, x, 4, rfl, rfl, by decide, Nat.le_of_ble_eq_true rfl, h4⟩
            | tail _ he => cases he with
              | head => exact ⟨Nat.le_of_ble_eq_true rfl, kc, 0, rfl, rfl, by decide, hn_I (Nat.le_of_ble_eq_true rfl) rfl⟩
              | tail _ he => cases he with
                | head => exact ⟨Nat.le_of_ble_eq_true rfl, kc, 1, rfl, rfl, by decide, (show (0 : Int) = M.1 kc 1 by omega)⟩
                | tail _ he => cases he) ⟨_, _, rfl, ⟨Nat.le_of_ble_eq_true rfl, rfl⟩, _, _, rfl, ⟨_, rfl, (show (1 : Int) = z1 by omega)⟩, rfl⟩ hI (fun r M' i f ⟨po, hpo, h⟩ => ?_)
          cases hpo with
          | head =>
            obtain ⟨⟨z, rfl, hz⟩, hm⟩ := h
            obtain ⟨a, ha, hx0⟩ := hm _ (List.Mem.head _)
            cases ha
            obtain ⟨a, ha, hx1⟩ := hm _ (List.Mem.tail _ (List.Mem.head _))
            cases ha
            have hz : z = 0 := hz
            subst hz
            have hx0 : M'.1 kc 0 = M.1 kc 0 + 0 := hx0
            have hx1 : M'.1 kc 1 = 0 := hx1
            exact hQ 0 M' (hV.fr i f (by decide +kernel)) (hV.sz f (by decide +kernel)) (hn_up f (by decide +kernel)) (Or.inl ⟨by omega, rfl⟩)
          | tail _ hpo => cases hpo
        · skip
          refine xo_X11_restore_11 (d + 30) (Nat.le_trans (by decide +kernel : ab_h cx_X11_restore_11 ≤ 30) (Nat.le_add_left 30 d)) G M (1, hn_g [M.1 kc 0], 2, lw_w2 x kc) _ Q ⟨rfl, fun i q e => by
            cases i with
            | zero => cases e; exact ⟨by show (0 : Int) ≤ M.1 kc 0; omega, by show M.1 kc 0 ≤ (1 : Int); omega, fun r hr => by cases hr⟩
            | succ i =>
              cases e⟩ (lw_R2k g1 hkc) (fun e he => by
            cases he with
            | head => exact ⟨Nat.le_of_ble_eq_true rfl, x, 4, rfl, rfl, by decide, Nat.le_of_ble_eq_true rfl, h4⟩
            | tail _ he => cases he with
              | head => exact ⟨Nat.le_of_ble_eq_true rfl, kc, 0, rfl, rfl, by decide, hn_I (Nat.le_of_ble_eq_true rfl) rfl⟩
              | tail _ he => cases he with
                | head => exact ⟨Nat.le_of_ble_eq_true rfl, kc, 1, rfl, rfl, by decide, (show (1 : Int) = M.1 kc 1 by omega)⟩
                | tail _ he => cases he) ⟨_, _, rfl, ⟨Nat.le_of_ble_eq_true rfl, rfl⟩, _, _, rfl, ⟨_, rfl, (show (1 : Int) = z1 by omega)⟩, rfl⟩ hI (fun r M' i f ⟨po, hpo, h⟩ => ?_)
          cases hpo with
          | head =>
            obtain ⟨⟨z, rfl, hz⟩, hm⟩ := h
            obtain ⟨a, ha, hx0⟩ := hm _ (List.Mem.head _)
            cases ha
            obtain ⟨a, ha, hx1⟩ := hm _ (List.Mem.tail _ (List.Mem.head _))
            cases ha
            have hz : z = 1 := hz
            subst hz
            have hx0 : M'.1 kc 0 = M.1 kc 0 + 0 := hx0
            have hx1 : M'.1 kc 1 = 1 := hx1
            exact hQ 1 M' (hV.fr i f (by decide +kernel)) (hV.sz f (by decide +kernel)) (hn_up f (by decide +kernel)) (Or.inr ⟨by omega, rfl⟩)
          | tail _ hpo => cases hpo
      · skip
        refine xo_X11_restore_big (d + 30) (Nat.le_trans (by decide +kernel : ab_h cx_X11_restore_big ≤ 30) (Nat.le_add_left 30 d)) G M (3, hn_g [z1, M.1 kc 0, M.1 kc 1], 2, lw_w2 x kc) _ Q ⟨rfl, fun i q e => by
          cases i with
          | zero => cases e; exact ⟨by show (2 : Int) ≤ z1; omega, by show z1 ≤ (2147483647 : Int); omega, fun r hr => by cases hr⟩
          | succ i =>
            cases i with
            | zero => cases e; exact ⟨by show (0 : Int) ≤ M.1 kc 0; omega, by show M.1 kc 0 ≤ (1 : Int); omega, fun r hr => by cases hr⟩
            | succ i =>
              cases i with
              | zero => cases e; exact ⟨by show (0 : Int) ≤ M.1 kc 1; omega, by show M.1 kc 1 ≤ (1 : Int); omega, fun r hr => by cases hr⟩
              | succ i =>
                cases e⟩ (lw_R2k g1 hkc) (fun e he => by
          cases he with
          | head => exact ⟨Nat.le_of_ble_eq_true rfl, x, 4, rfl, rfl, by decide, Nat.le_of_ble_eq_true rfl, h4⟩
          | tail _ he => cases he with
            | head => exact ⟨Nat.le_of_ble_eq_true rfl, kc, 0, rfl, rfl, by decide, hn_I (Nat.le_of_ble_eq_true rfl) rfl⟩
            | tail _ he => cases he with
              | head => exact ⟨Nat.le_of_ble_eq_true rfl, kc, 1, rfl, rfl, by decide, hn_I (Nat.le_of_ble_eq_true rfl) rfl⟩
              | tail _ he => cases he) ⟨_, _, rfl, ⟨Nat.le_of_ble_eq_true rfl, rfl⟩, _, _, rfl, ⟨_, rfl, hn_I (Nat.le_of_ble_eq_true rfl) rfl⟩, rfl⟩ hI (fun r M' i f ⟨po, hpo, h⟩ => ?_)
        cases hpo with
        | head =>
          obtain ⟨⟨z, rfl, hz⟩, hm⟩ := h
          obtain ⟨a, ha, hx0⟩ := hm _ (List.Mem.head _)
          cases ha
          obtain ⟨a, ha, hx1⟩ := hm _ (List.Mem.tail _ (List.Mem.head _))
          cases ha
          have hz : z = 0 := hz
          subst hz
          have hx0 : M'.1 kc 0 = M.1 kc 0 + 0 := hx0
          have hx1 : M'.1 kc 1 = M.1 kc 1 + 0 := hx1
          exact hQ 0 M' (hV.fr i f (by decide +kernel)) (hV.sz f (by decide +kernel)) (hn_up f (by decide +kernel)) (Or.inl ⟨by omega, rfl⟩)
        | tail _ hpo => cases hpo
/-- where the images' marks lie -/
def lw_K (G : mj_G) (M : mj_M) (x m kc kr : Nat) : Prop := G kc = (48102, 2) ∧ G kr = (72102, 2) ∧ M.2.2 x 4 = some kc ∧ M.2.2 m 61 = some kr
def lw_kx (W : List (Nat × Nat × Nat)) : Bool := W.all (fun q => !(Nat.beq q.1 1011 && (Nat.ble q.2.1 4 && Nat.ble 4 q.2.2)) && !(Nat.beq q.1 1012 && (Nat.ble q.2.1 61 && Nat.ble 61 q.2.2)))
theorem lw_K.fr {W : List (Nat × Nat × Nat)} {G : mj_G} {M M' : mj_M} {x m kc kr : Nat} (hK : lw_K G M x m kc kr) (hx : G x = (1011, 0)) (hm : G m = (1012, 0)) (f : ab_frm W G M M') (hc : lw_kx W = true) : lw_K G M' x m kc kr := by
  obtain ⟨k1, k2, k3, k4⟩ := hK
  refine ⟨k1, k2, ?_, ?_⟩
  · rw [(f x 4 (by rw [hx]; exact hn_nc (List.all_eq_true.mpr fun q hq => (sx_nd (List.all_eq_true.mp hc q hq)).1))).2]; exact k3
  · rw [(f m 61 (by rw [hm]; exact hn_nc (List.all_eq_true.mpr fun q hq => (sx_nd (List.all_eq_true.mp hc q hq)).2))).2]; exact k4
theorem lw_kc {W : List (Nat × Nat × Nat)} {G : mj_G} {M M' : mj_M} {kc : Nat} (hk : G kc = (48102, 2)) (f : ab_frm W G M M') (hc : W.all (fun q => !(Nat.beq q.1 48102)) = true) (j : Nat) : M'.1 kc j = M.1 kc j := (f kc j (by rw [hk]; exact hn_nt hc)).1
theorem lw_kr {W : List (Nat × Nat × Nat)} {G : mj_G} {M M' : mj_M} {kr : Nat} (hk : G kr = (72102, 2)) (f : ab_frm W G M M') (hc : W.all (fun q => !(Nat.beq q.1 72102)) = true) (j : Nat) : M'.1 kr j = M.1 kr j := (f kr j (by rw [hk]; exact hn_nt hc)).1
end
