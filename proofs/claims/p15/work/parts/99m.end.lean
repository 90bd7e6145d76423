/-! ===== end of both sides ===== -/
theorem lc_X11_end {d x m tp s kp : Nat} {n : Int} {G : mj_G} {M : mj_M} {Q : mj_P} (hV : lw_V G M x m tp s kp) (hn : mj_in n) (hQ0 : (n < 0 ∨ M.1 tp 1 < n) → ∀ M', lw_V G M' x m tp s kp → M'.1 tp 1 = M.1 tp 1 → M'.1 m 2 = M.1 m 2 → ab_frm (ab_w cx_X11_end_neg) G M M' → Q (some (.inl 0)) G M') (hQ1 : 0 ≤ n → n ≤ M.1 tp 1 → ∀ M', lw_V G M' x m tp s kp → M'.1 tp 1 = n → M'.1 m 2 = M.1 m 2 → ab_frm (ab_w cx_X11_end_fit) G M M' → Q (some (.inl 1)) G M') : mj_R mj_tab (d + 31) (ab_y cx_X11_end_fit) [.inr (.inr (some x)), .inl n] G M Q := by
  obtain ⟨hI, ⟨g1, g2, g3, g4, g5⟩, ⟨r1, r2, r3⟩, -⟩ := id hV
  have hb : 0 ≤ M.1 tp 1 ∧ M.1 tp 1 ≤ 940 := by
    have := hI.1 tp 1
    rw [g3] at this
    exact this
  by_cases hc : n < 0
  · skip
    refine xo_X11_end_neg (d + 30) (Nat.le_trans (by decide +kernel : ab_h cx_X11_end_neg ≤ 30) (Nat.le_add_left 30 d)) G M (2, hn_g [n, M.1 tp 1], 2, lw_w2 x tp) _ Q ⟨rfl, fun i q e => by
      cases i with
      | zero => cases e; exact ⟨by show (-2147483648 : Int) ≤ n; exact hn.1, by show n ≤ (-1 : Int); omega, fun r hr => by cases hr⟩
      | succ i => cases i with
        | zero => cases e; exact ⟨by show (0 : Int) ≤ M.1 tp 1; omega, by show M.1 tp 1 ≤ (940 : Int); omega, fun r hr => by cases hr⟩
        | succ i => cases e⟩ (lw_R2 g1 g3) (fun e he => by
      cases he with
      | head => exact ⟨Nat.le_of_ble_eq_true rfl, x, 0, rfl, rfl, by decide, Nat.le_of_ble_eq_true rfl, r1⟩
      | tail _ he => cases he with
        | head => exact ⟨Nat.le_of_ble_eq_true rfl, tp, 1, rfl, rfl, by decide, hn_I (Nat.le_of_ble_eq_true rfl) rfl⟩
        | tail _ he => cases he) ⟨_, _, rfl, ⟨Nat.le_of_ble_eq_true rfl, rfl⟩, _, _, rfl, ⟨_, rfl, hn_I (Nat.le_of_ble_eq_true rfl) rfl⟩, rfl⟩ hI (fun r M' i f ⟨po, hpo, h⟩ => ?_)
    cases hpo with
    | head =>
      obtain ⟨⟨z, rfl, hz⟩, hm⟩ := h
      obtain ⟨a, ha, hx⟩ := hm _ (List.Mem.head _)
      cases ha
      have hz : z = 0 := hz
      subst hz
      have hx : M'.1 tp 1 = M.1 tp 1 + 0 := hx
      exact hQ0 (by omega) M' (hV.fr i f (by decide +kernel)) (by omega) (f m 2 (by rw [g2]; exact hn_nt (by decide +kernel))).1 f
    | tail _ hpo => cases hpo
  · by_cases hc2 : M.1 tp 1 < n
    · skip
      refine xo_X11_end_big (d + 30) (Nat.le_trans (by decide +kernel : ab_h cx_X11_end_big ≤ 30) (Nat.le_add_left 30 d)) G M (2, hn_g [n, M.1 tp 1], 2, lw_w2 x tp) _ Q ⟨rfl, fun i q e => by
        cases i with
        | zero => cases e; exact ⟨by show (1 : Int) ≤ n; omega, by show n ≤ (2147483647 : Int); have := hn.2; omega, fun r hr => by
          cases hr with
          | head => exact ⟨Nat.le_of_ble_eq_true rfl, by show M.1 tp 1 + 1 ≤ n; omega⟩
          | tail _ hr => cases hr⟩
        | succ i => cases i with
          | zero => cases e; exact ⟨by show (0 : Int) ≤ M.1 tp 1; omega, by show M.1 tp 1 ≤ (940 : Int); omega, fun r hr => by cases hr⟩
          | succ i => cases e⟩ (lw_R2 g1 g3) (fun e he => by
        cases he with
        | head => exact ⟨Nat.le_of_ble_eq_true rfl, x, 0, rfl, rfl, by decide, Nat.le_of_ble_eq_true rfl, r1⟩
        | tail _ he => cases he with
          | head => exact ⟨Nat.le_of_ble_eq_true rfl, tp, 1, rfl, rfl, by decide, hn_I (Nat.le_of_ble_eq_true rfl) rfl⟩
          | tail _ he => cases he) ⟨_, _, rfl, ⟨Nat.le_of_ble_eq_true rfl, rfl⟩, _, _, rfl, ⟨_, rfl, hn_I (Nat.le_of_ble_eq_true rfl) rfl⟩, rfl⟩ hI (fun r M' i f ⟨po, hpo, h⟩ => ?_)
      cases hpo with
      | head =>
        obtain ⟨⟨z, rfl, hz⟩, hm⟩ := h
        obtain ⟨a, ha, hx⟩ := hm _ (List.Mem.head _)
        cases ha
        have hz : z = 0 := hz
        subst hz
        have hx : M'.1 tp 1 = M.1 tp 1 + 0 := hx
        exact hQ0 (by omega) M' (hV.fr i f (by decide +kernel)) (by omega) (f m 2 (by rw [g2]; exact hn_nt (by decide +kernel))).1 f
      | tail _ hpo => cases hpo
    · skip
      refine xo_X11_end_fit (d + 30) (Nat.le_trans (by decide +kernel : ab_h cx_X11_end_fit ≤ 30) (Nat.le_add_left 30 d)) G M (2, hn_g [n, M.1 tp 1], 2, lw_w2 x tp) _ Q ⟨rfl, fun i q e => by
        cases i with
        | zero => cases e; exact ⟨by show (0 : Int) ≤ n; omega, by show n ≤ (940 : Int); omega, fun r hr => by cases hr⟩
        | succ i => cases i with
          | zero => cases e; exact ⟨by show (0 : Int) ≤ M.1 tp 1; omega, by show M.1 tp 1 ≤ (940 : Int); omega, fun r hr => by
          cases hr with
          | head => exact ⟨Nat.le_of_ble_eq_true rfl, by show n + 0 ≤ M.1 tp 1; omega⟩
          | tail _ hr => cases hr⟩
          | succ i => cases e⟩ (lw_R2 g1 g3) (fun e he => by
        cases he with
        | head => exact ⟨Nat.le_of_ble_eq_true rfl, x, 0, rfl, rfl, by decide, Nat.le_of_ble_eq_true rfl, r1⟩
        | tail _ he => cases he with
          | head => exact ⟨Nat.le_of_ble_eq_true rfl, tp, 1, rfl, rfl, by decide, hn_I (Nat.le_of_ble_eq_true rfl) rfl⟩
          | tail _ he => cases he) ⟨_, _, rfl, ⟨Nat.le_of_ble_eq_true rfl, rfl⟩, _, _, rfl, ⟨_, rfl, hn_I (Nat.le_of_ble_eq_true rfl) rfl⟩, rfl⟩ hI (fun r M' i f ⟨po, hpo, h⟩ => ?_)
      cases hpo with
      | head =>
        obtain ⟨⟨z, rfl, hz⟩, hm⟩ := h
        obtain ⟨a, ha, hx⟩ := hm _ (List.Mem.head _)
        cases ha
        have hz : z = 1 := hz
        subst hz
        have hx : M'.1 tp 1 = n + 0 := hx
        exact hQ1 (by omega) (by omega) M' (hV.fr i f (by decide +kernel)) (by omega) (f m 2 (by rw [g2]; exact hn_nt (by decide +kernel))).1 f
      | tail _ hpo => cases hpo
theorem lc_X12_end {d x m tp s kp : Nat} {n : Int} {G : mj_G} {M : mj_M} {Q : mj_P} (hV : lw_V G M x m tp s kp) (hn : mj_in n) (hQ0 : (n < 0 ∨ M.1 m 2 < n) → ∀ M', lw_V G M' x m tp s kp → M'.1 m 2 = M.1 m 2 → M'.1 tp 1 = M.1 tp 1 → ab_frm (ab_w cx_X12_end_neg) G M M' → Q (some (.inl 0)) G M') (hQ1 : 0 ≤ n → n ≤ M.1 m 2 → ∀ M', lw_V G M' x m tp s kp → M'.1 m 2 = n → M'.1 tp 1 = M.1 tp 1 → ab_frm (ab_w cx_X12_end_fit) G M M' → Q (some (.inl 1)) G M') : mj_R mj_tab (d + 31) (ab_y cx_X12_end_fit) [.inr (.inr (some m)), .inl n] G M Q := by
  obtain ⟨hI, ⟨g1, g2, g3, g4, g5⟩, ⟨r1, r2, r3⟩, -⟩ := id hV
  have hb : 0 ≤ M.1 m 2 ∧ M.1 m 2 ≤ 940 := by
    have := hI.1 m 2
    rw [g2] at this
    exact this
  by_cases hc : n < 0
  · skip
    refine xo_X12_end_neg (d + 30) (Nat.le_trans (by decide +kernel : ab_h cx_X12_end_neg ≤ 30) (Nat.le_add_left 30 d)) G M (2, hn_g [n, M.1 m 2], 1, fun _ => some m) _ Q ⟨rfl, fun i q e => by
      cases i with
      | zero => cases e; exact ⟨by show (-2147483648 : Int) ≤ n; exact hn.1, by show n ≤ (-1 : Int); omega, fun r hr => by cases hr⟩
      | succ i => cases i with
        | zero => cases e; exact ⟨by show (0 : Int) ≤ M.1 m 2; omega, by show M.1 m 2 ≤ (940 : Int); omega, fun r hr => by cases hr⟩
        | succ i => cases e⟩ (hn_RR g2) (fun e he => by
      cases he with
      | head => exact ⟨Nat.le_of_ble_eq_true rfl, m, 2, rfl, rfl, by decide, hn_I (Nat.le_of_ble_eq_true rfl) rfl⟩
      | tail _ he => cases he) ⟨_, _, rfl, ⟨Nat.le_of_ble_eq_true rfl, rfl⟩, _, _, rfl, ⟨_, rfl, hn_I (Nat.le_of_ble_eq_true rfl) rfl⟩, rfl⟩ hI (fun r M' i f ⟨po, hpo, h⟩ => ?_)
    cases hpo with
    | head =>
      obtain ⟨⟨z, rfl, hz⟩, hm⟩ := h
      obtain ⟨a, ha, hx⟩ := hm _ (List.Mem.head _)
      cases ha
      have hz : z = 0 := hz
      subst hz
      have hx : M'.1 m 2 = M.1 m 2 + 0 := hx
      exact hQ0 (by omega) M' (hV.fr i f (by decide +kernel)) (by omega) (f tp 1 (by rw [g3]; exact hn_nt (by decide +kernel))).1 f
    | tail _ hpo => cases hpo
  · by_cases hc2 : M.1 m 2 < n
    · skip
      refine xo_X12_end_big (d + 30) (Nat.le_trans (by decide +kernel : ab_h cx_X12_end_big ≤ 30) (Nat.le_add_left 30 d)) G M (2, hn_g [n, M.1 m 2], 1, fun _ => some m) _ Q ⟨rfl, fun i q e => by
        cases i with
        | zero => cases e; exact ⟨by show (1 : Int) ≤ n; omega, by show n ≤ (2147483647 : Int); have := hn.2; omega, fun r hr => by
          cases hr with
          | head => exact ⟨Nat.le_of_ble_eq_true rfl, by show M.1 m 2 + 1 ≤ n; omega⟩
          | tail _ hr => cases hr⟩
        | succ i => cases i with
          | zero => cases e; exact ⟨by show (0 : Int) ≤ M.1 m 2; omega, by show M.1 m 2 ≤ (940 : Int); omega, fun r hr => by cases hr⟩
          | succ i => cases e⟩ (hn_RR g2) (fun e he => by
        cases he with
        | head => exact ⟨Nat.le_of_ble_eq_true rfl, m, 2, rfl, rfl, by decide, hn_I (Nat.le_of_ble_eq_true rfl) rfl⟩
        | tail _ he => cases he) ⟨_, _, rfl, ⟨Nat.le_of_ble_eq_true rfl, rfl⟩, _, _, rfl, ⟨_, rfl, hn_I (Nat.le_of_ble_eq_true rfl) rfl⟩, rfl⟩ hI (fun r M' i f ⟨po, hpo, h⟩ => ?_)
      cases hpo with
      | head =>
        obtain ⟨⟨z, rfl, hz⟩, hm⟩ := h
        obtain ⟨a, ha, hx⟩ := hm _ (List.Mem.head _)
        cases ha
        have hz : z = 0 := hz
        subst hz
        have hx : M'.1 m 2 = M.1 m 2 + 0 := hx
        exact hQ0 (by omega) M' (hV.fr i f (by decide +kernel)) (by omega) (f tp 1 (by rw [g3]; exact hn_nt (by decide +kernel))).1 f
      | tail _ hpo => cases hpo
    · skip
      refine xo_X12_end_fit (d + 30) (Nat.le_trans (by decide +kernel : ab_h cx_X12_end_fit ≤ 30) (Nat.le_add_left 30 d)) G M (2, hn_g [n, M.1 m 2], 1, fun _ => some m) _ Q ⟨rfl, fun i q e => by
        cases i with
        | zero => cases e; exact ⟨by show (0 : Int) ≤ n; omega, by show n ≤ (940 : Int); omega, fun r hr => by cases hr⟩
        | succ i => cases i with
          | zero => cases e; exact ⟨by show (0 : Int) ≤ M.1 m 2; omega, by show M.1 m 2 ≤ (940 : Int); omega, fun r hr => by
          cases hr with
          | head => exact ⟨Nat.le_of_ble_eq_true rfl, by show n + 0 ≤ M.1 m 2; omega⟩
          | tail _ hr => cases hr⟩
          | succ i => cases e⟩ (hn_RR g2) (fun e he => by
        cases he with
        | head => exact ⟨Nat.le_of_ble_eq_true rfl, m, 2, rfl, rfl, by decide, hn_I (Nat.le_of_ble_eq_true rfl) rfl⟩
        | tail _ he => cases he) ⟨_, _, rfl, ⟨Nat.le_of_ble_eq_true rfl, rfl⟩, _, _, rfl, ⟨_, rfl, hn_I (Nat.le_of_ble_eq_true rfl) rfl⟩, rfl⟩ hI (fun r M' i f ⟨po, hpo, h⟩ => ?_)
      cases hpo with
      | head =>
        obtain ⟨⟨z, rfl, hz⟩, hm⟩ := h
        obtain ⟨a, ha, hx⟩ := hm _ (List.Mem.head _)
        cases ha
        have hz : z = 1 := hz
        subst hz
        have hx : M'.1 m 2 = n + 0 := hx
        exact hQ1 (by omega) (by omega) M' (hV.fr i f (by decide +kernel)) (by omega) (f tp 1 (by rw [g3]; exact hn_nt (by decide +kernel))).1 f
      | tail _ hpo => cases hpo
