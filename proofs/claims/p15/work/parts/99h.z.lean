/-! ===== calls of the class that empty the tape ===== -/
def lw_w2 (x tp : Nat) (i : Nat) : Option Nat := if i = 0 then some x else some tp
theorem lw_R2 {G : mj_G} {x tp n : Nat} {f : Nat → Int} (hx : G x = (1011, 0)) (ht : G tp = (1008, 0)) : ab_RR (n, f, 2, lw_w2 x tp) G [(1011, 0), (1008, 0)] := ⟨rfl, fun i q h => by
  cases i with
  | zero =>
    cases h
    exact Or.inr (Or.inr (Or.inr ⟨by decide, by decide, by decide, x, rfl, hx⟩))
  | succ i => cases i with
    | zero =>
      cases h
      exact Or.inr (Or.inr (Or.inr ⟨by decide, by decide, by decide, tp, rfl, ht⟩))
    | succ i => cases h⟩
/-- its post: an int, and the tape's size is 0 -/
def lw_zp (po : ab_po) : Bool := match po with
  | (some (.inl _), [(1, 1, .inl (.ofNat 0))]) => true
  | _ => false
theorem lw_z {c : ab_co} {x m tp s kp dd : Nat} {G : mj_G} {M : mj_M} {Q : mj_P} (hok : ab_ok c) (hp : ab_p c = ([(.ofNat 0, .ofNat 940, [])], [(1011, 0), (1008, 0)], [(0, 0, .inr (.inr 1)), (1, 1, .inl (.inr (0, 1, .ofNat 0)))], [some (.inr (.inr 0))])) (hd : ab_h c ≤ dd) (hr : (ab_o c).all lw_zp = true) (hV : lw_V G M x m tp s kp) (hw : lw_ck (ab_w c) = true) (h2 : (ab_w c).all (fun q => !(Nat.beq q.1 1012)) = true) (hQ : ∀ z M', lw_V G M' x m tp s kp → M'.1 tp 1 = 0 → M'.1 m 2 = M.1 m 2 → ab_frm (ab_w c) G M M' → Q (some (.inl z)) G M') : mj_R mj_tab (dd + 1) (ab_y c) [.inr (.inr (some x))] G M Q := by
  obtain ⟨hI, ⟨g1, g2, g3, g4, g5⟩, ⟨r1, r2, r3⟩, -⟩ := id hV
  refine hok dd hd G M (1, hn_g [M.1 tp 1], 2, lw_w2 x tp) _ Q (by rw [hp]; exact hn_Y1 (by have := hI.1 tp 1; rw [g3] at this; exact this)) (by rw [hp]; exact lw_R2 g1 g3) (by
    rw [hp]
    intro e he
    cases he with
    | head => exact ⟨Nat.le_of_ble_eq_true rfl, x, 0, rfl, rfl, by decide, Nat.le_of_ble_eq_true rfl, r1⟩
    | tail _ he => cases he with
      | head => exact ⟨Nat.le_of_ble_eq_true rfl, tp, 1, rfl, rfl, by decide, hn_I (Nat.le_of_ble_eq_true rfl) rfl⟩
      | tail _ he => cases he) (by rw [hp]; exact ⟨_, _, rfl, ⟨Nat.le_of_ble_eq_true rfl, rfl⟩, rfl⟩) hI (fun r M' i f ⟨po, hpo, h⟩ => ?_)
  have hz := List.all_eq_true.mp hr po hpo
  unfold lw_zp at hz
  split at hz
  · obtain ⟨⟨z, rfl, -⟩, hm⟩ := h
    obtain ⟨a, ha, hx⟩ := hm _ (List.Mem.head _)
    cases ha
    exact hQ z M' (hV.fr i f hw) hx (f m 2 (by rw [g2]; exact hn_nt h2)).1 f
  · cases hz
theorem lc_X11_plain {d x m tp s kp : Nat} {G : mj_G} {M : mj_M} {Q : mj_P} (hV : lw_V G M x m tp s kp) (hQ : ∀ z M', lw_V G M' x m tp s kp → M'.1 tp 1 = 0 → M'.1 m 2 = M.1 m 2 → ab_frm (ab_w cx_X11_plain_z) G M M' → Q (some (.inl z)) G M') : mj_R mj_tab (d + 31) 138 [.inr (.inr (some x))] G M Q := lw_z (c := cx_X11_plain_z) (dd := d + 30) xo_X11_plain_z rfl (Nat.le_trans (by decide +kernel : ab_h cx_X11_plain_z ≤ 30) (Nat.le_add_left 30 d)) (by decide +kernel) hV (by decide +kernel) (by decide +kernel) hQ
theorem lc_X11_contracts {d x m tp s kp : Nat} {G : mj_G} {M : mj_M} {Q : mj_P} (hV : lw_V G M x m tp s kp) (hQ : ∀ z M', lw_V G M' x m tp s kp → M'.1 tp 1 = 0 → M'.1 m 2 = M.1 m 2 → ab_frm (ab_w cx_X11_contracts_z) G M M' → Q (some (.inl z)) G M') : mj_R mj_tab (d + 31) 117 [.inr (.inr (some x))] G M Q := lw_z (c := cx_X11_contracts_z) (dd := d + 30) xo_X11_contracts_z rfl (Nat.le_trans (by decide +kernel : ab_h cx_X11_contracts_z ≤ 30) (Nat.le_add_left 30 d)) (by decide +kernel) hV (by decide +kernel) (by decide +kernel) hQ
theorem lc_X11_sentence {d x m tp s kp : Nat} {G : mj_G} {M : mj_M} {Q : mj_P} (hV : lw_V G M x m tp s kp) (hQ : ∀ z M', lw_V G M' x m tp s kp → M'.1 tp 1 = 0 → M'.1 m 2 = M.1 m 2 → ab_frm (ab_w cx_X11_sentence_z) G M M' → Q (some (.inl z)) G M') : mj_R mj_tab (d + 31) 147 [.inr (.inr (some x))] G M Q := lw_z (c := cx_X11_sentence_z) (dd := d + 30) xo_X11_sentence_z rfl (Nat.le_trans (by decide +kernel : ab_h cx_X11_sentence_z ≤ 30) (Nat.le_add_left 30 d)) (by decide +kernel) hV (by decide +kernel) (by decide +kernel) hQ
theorem lc_X11_leaks {d x m tp s kp : Nat} {G : mj_G} {M : mj_M} {Q : mj_P} (hV : lw_V G M x m tp s kp) (hQ : ∀ z M', lw_V G M' x m tp s kp → M'.1 tp 1 = 0 → M'.1 m 2 = M.1 m 2 → ab_frm (ab_w cx_X11_leaks_z) G M M' → Q (some (.inl z)) G M') : mj_R mj_tab (d + 31) 132 [.inr (.inr (some x))] G M Q := lw_z (c := cx_X11_leaks_z) (dd := d + 30) xo_X11_leaks_z rfl (Nat.le_trans (by decide +kernel : ab_h cx_X11_leaks_z ≤ 30) (Nat.le_add_left 30 d)) (by decide +kernel) hV (by decide +kernel) (by decide +kernel) hQ
