/-! ===== the invariant by roles: what a cell's references are ===== -/
/-- of an object's tag: slot, tag and length of what it refers to -/
def iv_rt (t : Nat) : List (Nat × Nat × Nat) := match t with
  | 1001 => [(0, 2100, 12), (7, 1100, 3), (8, 1100, 3), (9, 1104, 3), (10, 3104, 3), (11, 1100, 13), (12, 4104, 3), (13, 1100, 81), (14, 3100, 81), (16, 4100, 12), (17, 4100, 12)]
  | 1002 => [(0, 5100, 12), (1, 6100, 12), (2, 1100, 12)]
  | 1003 => [(0, 5104, 40), (3, 1102, 12), (4, 6104, 12), (6, 1010, 0), (7, 1010, 0)]
  | 1004 => [(0, 1103, 8), (1, 2104, 8), (2, 1104, 8), (3, 1100, 12), (10, 1100, 8)]
  | 1005 => [(1, 10100, 8), (2, 1100, 12), (3, 6100, 12)]
  | 1006 => [(0, 1105, 40), (1, 1100, 40), (2, 1100, 40), (3, 1102, 40)]
  | 1007 => [(0, 1004, 0), (1, 1002, 0), (2, 1006, 0), (3, 1010, 0)]
  | 1008 => [(0, 1101, 940)]
  | 1009 => [(0, 8100, 8), (1, 9100, 8), (2, 1100, 8)]
  | 1010 => [(3, 2100, 12), (4, 6100, 12), (5, 1100, 12), (6, 7104, 8)]
  | _ => []
/-- of an array's tag: what each of its places refers to -/
def iv_ro (t : Nat) : Option (Nat × Nat) := match t with
  | 1104 => some (1100, 12)
  | 2104 => some (1100, 9)
  | 3104 => some (1100, 13)
  | 4104 => some (1100, 81)
  | 5104 => some (1100, 3)
  | 6104 => some (1100, 8)
  | 7104 => some (1100, 11)
  | 1106 => some (1007, 0)
  | _ => none
def iv_A (G : mj_G) (M : mj_M) (a : Nat) : Prop := ∀ t n, G a = (t, n) → (∀ q ∈ iv_rt t, ∃ b, M.2.2 a q.1 = some b ∧ G b = q.2) ∧ ∀ r, iv_ro t = some r → ∀ k, k < n → ∃ b, M.2.2 a k = some b ∧ G b = r
def iv_I (S : Nat → Prop) (G : mj_G) (M : mj_M) : Prop := ∀ a, ¬ S a → iv_A G M a
theorem iv_rt_ne : ∀ (t : Nat) (q : Nat × Nat × Nat), q ∈ iv_rt t → q.2.1 ≠ 0 := by
  intro t
  unfold iv_rt
  split <;> decide
theorem iv_ro_ne {t : Nat} {r : Nat × Nat} (h : iv_ro t = some r) : r.1 ≠ 0 := by
  unfold iv_ro at h
  split at h <;> first | (cases h; decide) | cases h
theorem iv_A.ext {S : Nat → Prop} {G G' : mj_G} {M M' : mj_M} {a : Nat} (h : iv_A G M a) (he : iv_ext S G M G' M') (hS : ∀ x, S x → (G x).1 ≠ 0 → G' x = G x) (ha : (G a).1 ≠ 0) (hn : ¬ S a) : iv_A G' M' a := by
  obtain ⟨e1, -, -, e4⟩ := he a ha hn
  have go : ∀ b r, G b = r → r.1 ≠ 0 → G' b = r := fun b r hb hr => by
    by_cases hs : S b
    · rw [hS b hs (by rw [hb]; exact hr)]; exact hb
    · rw [(he b (by rw [hb]; exact hr) hs).1]; exact hb
  intro t n hg
  obtain ⟨h1, h2⟩ := h t n (e1 ▸ hg)
  refine ⟨fun q hq => ?_, fun r hr k hk => ?_⟩
  · obtain ⟨b, b1, b2⟩ := h1 q hq
    exact ⟨b, by rw [e4]; exact b1, go b _ b2 (iv_rt_ne t q hq)⟩
  · obtain ⟨b, b1, b2⟩ := h2 r hr k hk
    exact ⟨b, by rw [e4]; exact b1, go b _ b2 (iv_ro_ne hr)⟩
