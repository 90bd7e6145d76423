/-! ===== calls of the reference that empty its tape ===== -/
def lw_mp (po : ab_po) : Bool := match po with
  | (some (.inl _), [(0, 2, .inl (.ofNat 0))]) => true
  | _ => false
theorem lw_m {c : ab_co} {x m tp s kp dd : Nat} {G : mj_G} {M : mj_M} {Q : mj_P} (hok : ab_ok c) (hp : ab_p c = ([(.ofNat 0, .ofNat 940, [])], [(1012, 0)], [(0, 2, .inl (.inr (0, 1, .ofNat 0)))], [some (.inr (.inr 0))])) (hd : ab_h c ≤ dd) (hr : (ab_o c).all lw_mp = true) (hV : lw_V G M x m tp s kp) (hw : lw_ck (ab_w c) = true) (h2 : (ab_w c).all (fun q => !(Nat.beq q.1 1008)) = true) (hQ : ∀ z M', lw_V G M' x m tp s kp → M'.1 m 2 = 0 → M'.1 tp 1 = M.1 tp 1 → ab_frm (ab_w c) G M M' → Q (some (.inl z)) G M') : mj_R mj_tab (dd + 1) (ab_y c) [.inr (.inr (some m))] G M Q := by
  obtain ⟨hI, ⟨g1, g2, g3, g4, g5⟩, ⟨r1, r2, r3⟩, -⟩ := id hV
  refine hok dd hd G M (1, hn_g [M.1 m 2], 1, fun _ => some m) _ Q (by rw [hp]; exact hn_Y1 (by have := hI.1 m 2; rw [g2] at this; exact this)) (by rw [hp]; exact hn_RR g2) (by
    rw [hp]
    intro e he
    cases he with
    | head => exact ⟨Nat.le_of_ble_eq_true rfl, m, 2, rfl, rfl, by decide, hn_I (Nat.le_of_ble_eq_true rfl) rfl⟩
    | tail _ he => cases he) (by rw [hp]; exact ⟨_, _, rfl, ⟨Nat.le_of_ble_eq_true rfl, rfl⟩, rfl⟩) hI (fun r M' i f ⟨po, hpo, h⟩ => ?_)
  have hz := List.all_eq_true.mp hr po hpo
  unfold lw_mp at hz
  split at hz
  · obtain ⟨⟨z, rfl, -⟩, hm⟩ := h
    obtain ⟨a, ha, hx⟩ := hm _ (List.Mem.head _)
    cases ha
    exact hQ z M' (hV.fr i f hw) hx (f tp 1 (by rw [g3]; exact hn_nt h2)).1 f
  · cases hz
theorem lc_X12_contracts {d x m tp s kp : Nat} {G : mj_G} {M : mj_M} {Q : mj_P} (hV : lw_V G M x m tp s kp) (hQ : ∀ z M', lw_V G M' x m tp s kp → M'.1 m 2 = 0 → M'.1 tp 1 = M.1 tp 1 → ab_frm (ab_w cx_X12_contracts_z) G M M' → Q (some (.inl z)) G M') : mj_R mj_tab (d + 31) 177 [.inr (.inr (some m))] G M Q := lw_m (c := cx_X12_contracts_z) (dd := d + 30) xo_X12_contracts_z rfl (Nat.le_trans (by decide +kernel : ab_h cx_X12_contracts_z ≤ 30) (Nat.le_add_left 30 d)) (by decide +kernel) hV (by decide +kernel) (by decide +kernel) hQ
theorem lc_X12_leaks {d x m tp s kp : Nat} {G : mj_G} {M : mj_M} {Q : mj_P} (hV : lw_V G M x m tp s kp) (hQ : ∀ z M', lw_V G M' x m tp s kp → M'.1 m 2 = 0 → M'.1 tp 1 = M.1 tp 1 → ab_frm (ab_w cx_X12_leaks_z) G M M' → Q (some (.inl z)) G M') : mj_R mj_tab (d + 31) 210 [.inr (.inr (some m))] G M Q := lw_m (c := cx_X12_leaks_z) (dd := d + 30) xo_X12_leaks_z rfl (Nat.le_trans (by decide +kernel : ab_h cx_X12_leaks_z ≤ 30) (Nat.le_add_left 30 d)) (by decide +kernel) hV (by decide +kernel) (by decide +kernel) hQ
