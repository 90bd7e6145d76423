/-! ===== by hand: calls of the reference's small methods ===== -/
theorem hn_RR {G : mj_G} {m n : Nat} {f : Nat → Int} (hm : G m = (1012, 0)) : ab_RR (n, f, 1, fun _ => some m) G [(1012, 0)] := ⟨rfl, fun i q h => by
  cases i with
  | zero =>
    cases h
    exact Or.inr (Or.inr (Or.inr ⟨by decide, by decide, by decide, m, rfl, hm⟩))
  | succ i => cases h⟩
def hn_g (zs : List Int) (i : Nat) : Int := zs.getD i 0
theorem hn_Y {zs : List Int} {q : Nat × (Nat → Option Nat)} {Y : ab_Y} (h : Y.length = zs.length) (hy : ∀ i lo hi r, ab_ny Y i = some (lo, hi, r) → r = [] ∧ lo ≤ hn_g zs i ∧ hn_g zs i ≤ hi) : ab_RY (zs.length, hn_g zs, q) Y := ⟨h.symm, fun i (lo, hi, r) e => by
  obtain ⟨rfl, h1, h2⟩ := hy i lo hi r e
  exact ⟨h1, h2, fun r hr => by cases hr⟩⟩
theorem hn_Y0 {q : Nat × (Nat → Option Nat)} : ab_RY (0, hn_g [], q) [] := hn_Y (zs := []) rfl (fun i lo hi r e => by cases e)
theorem hn_Y1 {z lo hi : Int} {q : Nat × (Nat → Option Nat)} (h : lo ≤ z ∧ z ≤ hi) : ab_RY (1, hn_g [z], q) [(lo, hi, [])] := hn_Y (zs := [z]) rfl (fun i lo hi r e => by
  cases i with
  | zero => cases e; exact ⟨rfl, h⟩
  | succ i => cases e)
theorem hn_Y2 {z lo hi z2 lo2 hi2 : Int} {q : Nat × (Nat → Option Nat)} (h : lo ≤ z ∧ z ≤ hi) (h2 : lo2 ≤ z2 ∧ z2 ≤ hi2) : ab_RY (2, hn_g [z, z2], q) [(lo, hi, []), (lo2, hi2, [])] := hn_Y (zs := [z, z2]) rfl (fun i lo hi r e => by
  cases i with
  | zero => cases e; exact ⟨rfl, h⟩
  | succ i => cases i with
    | zero => cases e; exact ⟨rfl, h2⟩
    | succ i => cases e)
theorem hn_Y4 {z lo hi z2 lo2 hi2 z3 lo3 hi3 z4 lo4 hi4 : Int} {q : Nat × (Nat → Option Nat)} (h : lo ≤ z ∧ z ≤ hi) (h2 : lo2 ≤ z2 ∧ z2 ≤ hi2) (h3 : lo3 ≤ z3 ∧ z3 ≤ hi3) (h4 : lo4 ≤ z4 ∧ z4 ≤ hi4) : ab_RY (4, hn_g [z, z2, z3, z4], q) [(lo, hi, []), (lo2, hi2, []), (lo3, hi3, []), (lo4, hi4, [])] := hn_Y (zs := [z, z2, z3, z4]) rfl (fun i lo hi r e => by
  cases i with
  | zero => cases e; exact ⟨rfl, h⟩
  | succ i => cases i with
    | zero => cases e; exact ⟨rfl, h2⟩
    | succ i => cases i with
      | zero => cases e; exact ⟨rfl, h3⟩
      | succ i => cases i with
        | zero => cases e; exact ⟨rfl, h4⟩
        | succ i => cases e)
theorem hn_ii {z : Int} (h : mj_in z) : (Int.negSucc 2147483647 : Int) ≤ z ∧ z ≤ .ofNat 2147483647 := ⟨h.1, by have := h.2; show z ≤ 2147483647; omega⟩
theorem hn_I {w : ab_wd} {i : Nat} {z : Int} (h : i < w.1) (e : w.2.1 i = z) : ab_RI w (.inr (i, 1, .ofNat 0)) z := ⟨h, by
  have h4 : Int.ofNat 1 * w.2.1 i = w.2.1 i := Int.one_mul _
  show Int.ofNat 1 * w.2.1 i + 0 = z
  omega⟩
theorem r_isWord {d m : Nat} {v : Int64} {G : mj_G} {M : mj_M} {Q : mj_P} (hm : G m = (1012, 0)) (hI : ab_Inv G M) (hQ : ∀ M' z, ab_Inv G M' → ab_frm [] G M M' → (z = 0 ∨ z = 1) → Q (some (.inl z)) G M') : mj_R mj_tab (d + 1) 206 [.inr (.inr (some m)), .inr (.inl v)] G M Q := by
  refine xo_X12_isWord (d) (Nat.zero_le _) G M (0, hn_g [], 1, fun _ => some m) _ Q hn_Y0 (hn_RR hm) (fun e he => by cases he) ⟨_, _, rfl, ⟨Nat.zero_lt_one, rfl⟩, _, _, rfl, ⟨_, rfl⟩, rfl⟩ hI (fun r M' i f ⟨po, hp, h1⟩ => ?_)
  cases hp with
  | head => obtain ⟨⟨z, rfl, hz⟩, -⟩ := h1; exact hQ M' z i f (Or.inl hz)
  | tail _ hp => cases hp with
    | head => obtain ⟨⟨z, rfl, hz⟩, -⟩ := h1; exact hQ M' z i f (Or.inr hz)
    | tail _ hp => cases hp
theorem r_isSign {d m : Nat} {v : Int} {G : mj_G} {M : mj_M} {Q : mj_P} (hm : G m = (1012, 0)) (hI : ab_Inv G M) (hv : mj_in v) (hQ : ∀ M' z, ab_Inv G M' → ab_frm [] G M M' → (z = 0 ∨ z = 1) → Q (some (.inl z)) G M') : mj_R mj_tab (d + 1) 203 [.inr (.inr (some m)), .inl v] G M Q := by
  refine xo_X12_isSign (d) (Nat.zero_le _) G M (1, hn_g [v], 1, fun _ => some m) _ Q (hn_Y1 (hn_ii hv)) (hn_RR hm) (fun e he => by cases he) ⟨_, _, rfl, ⟨Nat.zero_lt_one, rfl⟩, _, _, rfl, ⟨_, rfl, hn_I (Nat.le_of_ble_eq_true rfl) rfl⟩, rfl⟩ hI (fun r M' i f ⟨po, hp, h1⟩ => ?_)
  cases hp with
  | head => obtain ⟨⟨z, rfl, hz⟩, -⟩ := h1; exact hQ M' z i f (Or.inl hz)
  | tail _ hp => cases hp with
    | head => obtain ⟨⟨z, rfl, hz⟩, -⟩ := h1; exact hQ M' z i f (Or.inr hz)
    | tail _ hp => cases hp
theorem r_leafOf {d m : Nat} {G : mj_G} {M : mj_M} {Q : mj_P} (hm : G m = (1012, 0)) (hI : ab_Inv G M) (hQ : ∀ M' z, ab_Inv G M' → ab_frm [] G M M' → (-1 ≤ z ∧ z ≤ 8) → Q (some (.inl z)) G M') : mj_R mj_tab (d + 2) 208 [.inr (.inr (some m))] G M Q := by
  refine xo_X12_leafOf (d + 1) (Nat.le_add_left _ _) G M (0, hn_g [], 1, fun _ => some m) _ Q hn_Y0 (hn_RR hm) (fun e he => by cases he) ⟨_, _, rfl, ⟨Nat.zero_lt_one, rfl⟩, rfl⟩ hI (fun r M' i f ⟨po, hp, h1⟩ => ?_)
  cases hp with
  | head => obtain ⟨⟨z, rfl, hz⟩, -⟩ := h1; exact hQ M' z i f ⟨hz.1, hz.2.1⟩
  | tail _ hp => cases hp
theorem r_bad {d m : Nat} {v : Int} {G : mj_G} {M : mj_M} {Q : mj_P} (hm : G m = (1012, 0)) (hI : ab_Inv G M) (hv : mj_in v) (hQ : ∀ M', ab_Inv G M' → ab_frm [(1012, 15, 16)] G M M' → Q (some (.inl 0)) G M') : mj_R mj_tab (d + 1) 161 [.inr (.inr (some m)), .inl v] G M Q := by
  refine xo_X12_bad (d) (Nat.zero_le _) G M (1, hn_g [v], 1, fun _ => some m) _ Q (hn_Y1 (hn_ii hv)) (hn_RR hm) (fun e he => by cases he) ⟨_, _, rfl, ⟨Nat.zero_lt_one, rfl⟩, _, _, rfl, ⟨_, rfl, hn_I (Nat.le_of_ble_eq_true rfl) rfl⟩, rfl⟩ hI (fun r M' i f ⟨po, hp, h1⟩ => ?_)
  cases hp with
  | head =>
    obtain ⟨⟨z, rfl, hz⟩, -⟩ := h1
    have hz : z = 0 := hz
    subst hz
    exact hQ M' i f
  | tail _ hp => cases hp
theorem r_taken {d m : Nat} {v : Int} {G : mj_G} {M : mj_M} {Q : mj_P} (hm : G m = (1012, 0)) (hI : ab_Inv G M) (hv : mj_in v) (hQ : ∀ M', ab_Inv G M' → ab_frm [(1012, 2, 5)] G M M' → M'.1 m 2 = 0 → Q none G M') : mj_R mj_tab (d + 1) 245 [.inr (.inr (some m)), .inl v] G M Q := by
  refine xo_X12_taken (d) (Nat.zero_le _) G M (1, hn_g [v], 1, fun _ => some m) _ Q (hn_Y1 (hn_ii hv)) (hn_RR hm) (fun e he => by cases he) ⟨_, _, rfl, ⟨Nat.zero_lt_one, rfl⟩, _, _, rfl, ⟨_, rfl, hn_I (Nat.le_of_ble_eq_true rfl) rfl⟩, rfl⟩ hI (fun r M' i f ⟨po, hp, h1⟩ => ?_)
  cases hp with
  | head =>
    obtain ⟨rfl, h2⟩ := h1
    obtain ⟨a, ha, hx⟩ := h2 _ (List.Mem.head _)
    cases ha
    exact hQ M' i f hx
  | tail _ hp => cases hp
theorem r_next {d m : Nat} {G : mj_G} {M : mj_M} {Q : mj_P} (hm : G m = (1012, 0)) (hI : ab_Inv G M) (hQ : ∀ M', ab_Inv G M' → ab_frm [(1012, 4, 4), (1012, 11, 14), (1012, 17, 17)] G M M' → Q none G M') : mj_R mj_tab (d + 2) 216 [.inr (.inr (some m))] G M Q := by
  refine xo_X12_next (d + 1) (Nat.le_add_left _ _) G M (2, hn_g [M.1 m 4, M.1 m 13], 1, fun _ => some m) _ Q (hn_Y2 (by have := hI.1 m 4; rw [hm] at this; exact this) (hn_ii (hI.mj m 13))) (hn_RR hm) (fun e he => by
    cases he with
    | head => exact ⟨Nat.zero_lt_one, m, 4, rfl, rfl, by decide, hn_I (Nat.le_of_ble_eq_true rfl) rfl⟩
    | tail _ he => cases he with
      | head => exact ⟨Nat.zero_lt_one, m, 13, rfl, rfl, by decide, hn_I (Nat.le_of_ble_eq_true rfl) rfl⟩
      | tail _ he => cases he) ⟨_, _, rfl, ⟨Nat.zero_lt_one, rfl⟩, rfl⟩ hI (fun r M' i f ⟨po, hp, h1⟩ => ?_)
  have fin : r = none → Q r G M' := fun e => by subst e; exact hQ M' i f
  apply fin
  cases hp with
  | head => exact h1.1
  | tail _ hp => cases hp with
    | head => exact h1.1
    | tail _ hp => cases hp with
      | head => exact h1.1
      | tail _ hp => cases hp with
        | head => exact h1.1
        | tail _ hp => cases hp with
          | head => exact h1.1
          | tail _ hp => cases hp
theorem r_isLeaf {d m : Nat} {v v2 v3 v4 : Int} {G : mj_G} {M : mj_M} {Q : mj_P} (hm : G m = (1012, 0)) (hI : ab_Inv G M) (hv : 0 ≤ v ∧ v ≤ 7) (hv2 : mj_in v2) (hv3 : mj_in v3) (hv4 : mj_in v4) (hQ : ∀ M' z, ab_Inv G M' → ab_frm [] G M M' → (z = 0 ∨ z = 1) → Q (some (.inl z)) G M') : mj_R mj_tab (d + 2) 199 [.inr (.inr (some m)), .inl v, .inl v2, .inl v3, .inl v4] G M Q := by
  refine xo_X12_isLeaf (d + 1) (Nat.le_add_left _ _) G M (4, hn_g [v, v2, v3, v4], 1, fun _ => some m) _ Q (hn_Y4 hv (hn_ii hv2) (hn_ii hv3) (hn_ii hv4)) (hn_RR hm) (fun e he => by cases he) ⟨_, _, rfl, ⟨Nat.zero_lt_one, rfl⟩, _, _, rfl, ⟨_, rfl, hn_I (Nat.le_of_ble_eq_true rfl) rfl⟩, _, _, rfl, ⟨_, rfl, hn_I (Nat.le_of_ble_eq_true rfl) rfl⟩, _, _, rfl, ⟨_, rfl, hn_I (Nat.le_of_ble_eq_true rfl) rfl⟩, _, _, rfl, ⟨_, rfl, hn_I (Nat.le_of_ble_eq_true rfl) rfl⟩, rfl⟩ hI (fun r M' i f ⟨po, hp, h1⟩ => ?_)
  cases hp with
  | head => obtain ⟨⟨z, rfl, hz⟩, -⟩ := h1; exact hQ M' z i f (Or.inl hz)
  | tail _ hp => cases hp with
    | head => obtain ⟨⟨z, rfl, hz⟩, -⟩ := h1; exact hQ M' z i f (Or.inr hz)
    | tail _ hp => cases hp
