/-! ===== the best so far, and what a search adds to it ===== -/
theorem cs_min_none (a : cs_R) : cs_min a none = a := by
  cases a <;> rfl
theorem cs_min_assoc (a b c : cs_R) : cs_min (cs_min a b) c = cs_min a (cs_min b c) := by
  cases a with
  | none => rfl
  | some x =>
    cases b with
    | none => rfl
    | some y =>
      cases c with
      | none => rw [cs_min_none, cs_min_none]
      | some z =>
        show cs_min (if y.1 < x.1 then some y else some x) (some z) = cs_min (some x) (if z.1 < y.1 then some z else some y)
        by_cases p : y.1 < x.1
        · rw [if_pos p]
          by_cases q : z.1 < y.1
          · rw [if_pos q]
            show (if z.1 < y.1 then some z else some y) = (if z.1 < x.1 then some z else some x)
            rw [if_pos q, if_pos (by omega)]
          · rw [if_neg q]
            show (if z.1 < y.1 then some z else some y) = (if y.1 < x.1 then some y else some x)
            rw [if_neg q, if_pos p]
        · rw [if_neg p]
          by_cases q : z.1 < y.1
          · rw [if_pos q]
          · rw [if_neg q]
            show (if z.1 < x.1 then some z else some x) = (if y.1 < x.1 then some y else some x)
            rw [if_neg p, if_neg (by omega)]
/-- a way's end behind what was paid and planned already -/
def cs_pre (k : Int) (P : Nat → Int) (m : Nat) (a : cs_R) : cs_R := a.map (fun x => (k + x.1, fun j => if j < m then P j else x.2 j))
theorem cs_pre_min (k : Int) (P : Nat → Int) (m : Nat) (a b : cs_R) : cs_pre k P m (cs_min a b) = cs_min (cs_pre k P m a) (cs_pre k P m b) := by
  cases a with
  | none => rfl
  | some x =>
    cases b with
    | none => rfl
    | some y =>
      show cs_pre k P m (if y.1 < x.1 then some y else some x) = (if k + y.1 < k + x.1 then _ else _)
      by_cases c : y.1 < x.1
      · rw [if_pos c, if_pos (by omega)]; rfl
      · rw [if_neg c, if_neg (by omega)]; rfl
theorem cs_pre_fold (k : Int) (P : Nat → Int) (m : Nat) (f : Nat → cs_R) : ∀ n, cs_pre k P m (cs_fold f n) = cs_fold (fun i => cs_pre k P m (f i)) n
  | 0 => rfl
  | n + 1 => by
    show cs_pre k P m (cs_min _ _) = cs_min _ _
    rw [cs_pre_min, cs_pre_fold k P m f n]
theorem cs_pre_add (k q c : Int) (P P' : Nat → Int) (m : Nat) (a : cs_R) (h1 : ∀ j, j < m → P' j = P j) (h2 : P' m = c) : cs_pre k P m (cs_add q m c a) = cs_pre (k + q) P' (m + 1) a := by
  cases a with
  | none => rfl
  | some x =>
    show some (k + (q + x.1), _) = some (k + q + x.1, _)
    congr 1
    refine Prod.ext (by show k + (q + x.1) = k + q + x.1; omega) (funext fun j => ?_)
    show (if j < m then P j else if j = m then c else x.2 j) = (if j < m + 1 then P' j else x.2 j)
    by_cases e : j < m
    · rw [if_pos e, if_pos (by omega), h1 j e]
    · rw [if_neg e]
      by_cases e2 : j = m
      · rw [if_pos e2, if_pos (by omega), e2, h2]
      · rw [if_neg e2, if_neg (by omega)]
/-- nothing better comes of what costs as much already -/
theorem cs_cut {b : cs_R} {k : Int} {P : Nat → Int} {m : Nat} {a : cs_R} (h0 : ∀ c, cs_le a c → 0 ≤ c) (hb : cs_le b k) : cs_min b (cs_pre k P m a) = b := by
  obtain ⟨x, e, hx⟩ := hb
  cases a with
  | none => exact cs_min_none b
  | some y =>
    subst e
    show (if k + y.1 < x.1 then _ else some x) = some x
    have : 0 ≤ y.1 := h0 y.1 ⟨y, rfl, Int.le_refl _⟩
    exact if_neg (by omega)
theorem cs_cut_n {b : cs_R} {k : Int} {P : Nat → Int} {m : Nat} {a : cs_R} (h : a = none) : cs_min b (cs_pre k P m a) = b := by
  subst h; exact cs_min_none b
section CU
variable {H : Nat → Int}
/-- what months m .. m + r - 1 can bring a town altogether -/
def cs_all (H : Nat → Int) (k : Nat) : Nat → Nat → Int
  | 0, _ => 0
  | r + 1, m => cs_gain H k m + cs_all H k r (m + 1)
theorem cs_all_0 (k : Nat) : ∀ r m, 0 ≤ cs_all H k r m
  | 0, _ => Int.le_refl _
  | r + 1, m => by
    have := cs_all_0 k r (m + 1)
    have := cs_gain_0 (H := H) k m
    show 0 ≤ cs_gain H k m + cs_all H k r (m + 1)
    omega
/-- what all months together don't bring isn't brought -/
theorem cs_can : ∀ (r m a : Nat) (L : Nat → Int) (c : Int), cs_le (cs_S H r m a L) c → ∀ k, k < cs_t H → L k ≤ cs_all H k r m
  | 0, m, a, L, c, g, k, hk => (cs_S0_le.mp g).1 k hk
  | r + 1, m, a, L, c, g, k, hk => by
    obtain ⟨i, hi, g⟩ := cs_S1_le.mp g
    have h := cs_can r (m + 1) i _ _ g k hk
    have := cs_gain_0 (H := H) k m
    show L k ≤ cs_gain H k m + cs_all H k r (m + 1)
    unfold cs_lk at h
    by_cases e : k = i
    · rw [if_pos e] at h
      rw [← e] at h
      omega
    · rw [if_neg e] at h; omega
theorem cs_can_n {r m a : Nat} {L : Nat → Int} {k : Nat} (hk : k < cs_t H) (h : cs_all H k r m < L k) : cs_S H r m a L = none := by
  refine cs_none.mpr (fun c g => ?_)
  have := cs_can r m a L c g k hk
  omega
/-- a node of the search: its places tried one after another -/
noncomputable def cs_node (H : Nat → Int) (b : cs_R) (k : Int) (P : Nat → Int) (r m a : Nat) (L : Nat → Int) (n : Nat) : cs_R :=
  cs_min b (cs_fold (fun i => cs_pre (k + cs_cost H a i) (fun j => if j = m then cs_code H i else P j) (m + 1) (cs_S H r (m + 1) i (cs_lk H L i m))) n)
theorem cs_node_0 {b : cs_R} {k : Int} {P : Nat → Int} {r m a : Nat} {L : Nat → Int} : cs_node H b k P r m a L 0 = b := cs_min_none b
theorem cs_node_s {b : cs_R} {k : Int} {P : Nat → Int} {r m a : Nat} {L : Nat → Int} {n : Nat} : cs_node H b k P r m a L (n + 1) = cs_min (cs_node H b k P r m a L n) (cs_pre (k + cs_cost H a n) (fun j => if j = m then cs_code H n else P j) (m + 1) (cs_S H r (m + 1) n (cs_lk H L n m))) := by
  unfold cs_node
  rw [cs_min_assoc]; rfl
theorem cs_node_e {b : cs_R} {k : Int} {P : Nat → Int} {r m a : Nat} {L : Nat → Int} : cs_node H b k P r m a L (cs_t H + 1) = cs_min b (cs_pre k P m (cs_S H (r + 1) m a L)) := by
  unfold cs_node
  congr 1
  show _ = cs_pre k P m (cs_fold _ _)
  rw [cs_pre_fold]
  congr 1
  funext i
  exact (cs_pre_add k (cs_cost H a i) (cs_code H i) P (fun j => if j = m then cs_code H i else P j) m _ (fun j hj => if_neg (by omega)) (if_pos rfl)).symm
end CU
