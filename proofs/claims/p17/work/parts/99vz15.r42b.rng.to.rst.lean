section
/-! ===== what a PLAIN that is read well keeps: ranges, the count of bids ===== -/
def lq_ct (f : Nat → Int) : Nat → Int
  | 0 => 0
  | n + 1 => lq_ct f n + (if 0 < f n then 1 else 0)
theorem lq_ct_cg {f g : Nat → Int} : ∀ n, (∀ i, i < n → f i = g i) → lq_ct f n = lq_ct g n
  | 0, _ => rfl
  | n + 1, h => by
    show lq_ct f n + (if 0 < f n then 1 else 0) = lq_ct g n + (if 0 < g n then 1 else 0)
    rw [lq_ct_cg n (fun i hi => h i (by omega)), h n (by omega)]
theorem lq_ct_up {f g : Nat → Int} {j : Nat} (h : ∀ i, i ≠ j → g i = f i) : ∀ n, j < n → lq_ct g n = lq_ct f n - (if 0 < f j then 1 else 0) + (if 0 < g j then 1 else 0)
  | 0, hj => absurd hj (Nat.not_lt_zero _)
  | n + 1, hj => by
    show lq_ct g n + (if 0 < g n then 1 else 0) = lq_ct f n + (if 0 < f n then 1 else 0) - (if 0 < f j then 1 else 0) + (if 0 < g j then 1 else 0)
    by_cases e : j = n
    · subst e
      rw [lq_ct_cg (f := g) (g := f) j (fun i hi => h i (by omega))]
      omega
    · rw [lq_ct_up h n (by omega), h n (fun q => e q.symm)]
      omega
theorem lq_ct_b (f : Nat → Int) : ∀ n, 0 ≤ lq_ct f n ∧ lq_ct f n ≤ (n : Int)
  | 0 => ⟨Int.le_refl 0, Int.le_refl 0⟩
  | n + 1 => by
    have h := lq_ct_b f n
    show 0 ≤ lq_ct f n + (if 0 < f n then 1 else 0) ∧ lq_ct f n + (if 0 < f n then 1 else 0) ≤ ((n + 1 : Nat) : Int)
    split <;> omega
def rv_ct (BI : Nat → Nat → Int) : Int := lq_ct (fun i => BI (i / 12) (i % 12)) 96
theorem rv_up2_x {f : Nat → Nat → Int} {t j a k : Nat} {v : Int} (h : ¬ (a = t ∧ k = j)) : rv_up2 f t j v a k = f a k := by
  by_cases e : a = t
  · subst e; exact rv_up2_n (fun q => h ⟨rfl, q⟩)
  · unfold rv_up2; rw [if_neg e]
theorem rv_ct_up {BI : Nat → Nat → Int} {r m : Nat} {v : Int} (hr : r < 8) (hm : m < 12) (h0 : BI r m = 0) (hv : 0 < v) : rv_ct (rv_up2 BI r m v) = rv_ct BI + 1 := by
  unfold rv_ct
  have e1 : (12 * r + m) / 12 = r := by omega
  have e2 : (12 * r + m) % 12 = m := by omega
  have k := lq_ct_up (f := fun i => BI (i / 12) (i % 12)) (g := fun i => rv_up2 BI r m v (i / 12) (i % 12)) (j := 12 * r + m) (fun i hi => by
    show rv_up2 BI r m v (i / 12) (i % 12) = BI (i / 12) (i % 12)
    exact rv_up2_x (by omega)) 96 (by omega)
  rw [k, e1, e2, h0]
  have : rv_up2 BI r m v r m = v := rv_up2_s
  rw [this, if_pos hv]
  simp
/-- what every PLAIN keeps -/
def rv_ps (PL WA : Nat → Int) (TO BI : Nat → Nat → Int) : Prop := (0 ≤ PL 4 ∧ PL 4 ≤ 8) ∧ (0 ≤ PL 5 ∧ PL 5 ≤ 40) ∧ (0 ≤ PL 6 ∧ PL 6 ≤ 99) ∧ (0 ≤ PL 7 ∧ PL 7 ≤ 999) ∧ (1 ≤ PL 8 ∧ PL 8 ≤ 12) ∧ (∀ t v, t < 8 → v < 9 → 0 ≤ TO t v ∧ TO t v ≤ 999 ∧ ((t : Int) < PL 4 ∨ TO t v = 0)) ∧ (∀ v, v < 12 → 0 ≤ WA v ∧ WA v ≤ 999) ∧ (∀ t v, t < 8 → v < 12 → 0 ≤ BI t v ∧ BI t v ≤ 999 ∧ ((t : Int) < PL 4 ∨ BI t v = 0)) ∧ PL 5 = rv_ct BI
def rv_rg (y : rv_Om) : Prop := ∀ PL WA OA TO BI nm r, y = .inr (PL, WA, OA, TO, BI, nm, r) → rv_ps PL WA TO BI
def rv_Dr (S : (rv_Om → Prop) → Prop) : Prop := ∃ y, rv_rg y ∧ ∀ P : rv_Om → Prop, P y → S P
theorem dr_l (e : Int × Nat) : rv_rg (.inl e) := fun _ _ _ _ _ _ _ q => by cases q
theorem dr_f (f : Int) (a : Nat) : rv_Dr (fun P => P (.inl (f, a))) := ⟨_, dr_l _, fun _ h => h⟩
theorem dr_if {c : Prop} {A B : (rv_Om → Prop) → Prop} (hA : c → rv_Dr A) (hB : ¬ c → rv_Dr B) : rv_Dr (fun P => (c → A P) ∧ (¬ c → B P)) := by
  by_cases h : c
  · obtain ⟨y, hr, hy⟩ := hA h
    exact ⟨y, hr, fun P p => ⟨fun _ => hy P p, fun n => absurd h n⟩⟩
  · obtain ⟨y, hr, hy⟩ := hB h
    exact ⟨y, hr, fun P p => ⟨fun n => absurd n h, fun _ => hy P p⟩⟩
section DR
variable {T : Nat → Nat × Nat × Int × List Int × Nat} {p : Nat} {A : (rv_Om → Prop) → Prop}
theorem dr_num {lo hi : Int} (hA : lo ≤ (T p).2.2.1 → (T p).2.2.1 ≤ hi → rv_Dr A) : rv_Dr (fun P => sp_num T lo hi p (fun f a => P (.inl (f, a))) (A P)) := by
  by_cases c1 : (T p).1 = 2
  · by_cases c2 : lo ≤ (T p).2.2.1
    · by_cases c3 : (T p).2.2.1 ≤ hi
      · obtain ⟨y, hr, hy⟩ := hA c2 c3
        exact ⟨y, hr, fun P k => ⟨fun _ => ⟨fun _ => ⟨fun _ => hy P k, fun n => absurd c3 n⟩, fun n => absurd c2 n⟩, fun n => absurd c1 n⟩⟩
      · exact ⟨.inl (2, (T p).2.1), dr_l _, fun P k => ⟨fun _ => ⟨fun _ => ⟨fun n => absurd n c3, fun _ => k⟩, fun n => absurd c2 n⟩, fun n => absurd c1 n⟩⟩
    · exact ⟨.inl (2, (T p).2.1), dr_l _, fun P k => ⟨fun _ => ⟨fun n => absurd n c2, fun _ => k⟩, fun n => absurd c1 n⟩⟩
  · exact ⟨.inl (1, (T p).2.1), dr_l _, fun P k => ⟨fun n => absurd n c1, fun _ => k⟩⟩
theorem dr_sgn {c : Int} (hA : rv_Dr A) : rv_Dr (fun P => sp_sgn T c p (fun f a => P (.inl (f, a))) (A P)) := by
  obtain ⟨y, hr, hy⟩ := hA
  by_cases c1 : (T p).1 = 3
  · by_cases c2 : (T p).2.2.1 = c
    · exact ⟨y, hr, fun P k => ⟨fun _ => ⟨fun _ => hy P k, fun n => absurd c2 n⟩, fun n => absurd c1 n⟩⟩
    · exact ⟨.inl (1, (T p).2.1), dr_l _, fun P k => ⟨fun _ => ⟨fun n => absurd n c2, fun _ => k⟩, fun n => absurd c1 n⟩⟩
  · exact ⟨.inl (1, (T p).2.1), dr_l _, fun P k => ⟨fun n => absurd n c1, fun _ => k⟩⟩
theorem dr_nam (hA : rv_Dr A) : rv_Dr (fun P => sp_nam T p (fun f a => P (.inl (f, a))) (A P)) := by
  obtain ⟨y, hr, hy⟩ := hA
  by_cases c1 : (T p).1 = 1
  · by_cases c2 : rv_nam (T p).2.2.2.1
    · exact ⟨y, hr, fun P k => ⟨fun _ => ⟨fun _ => hy P k, fun n => absurd c2 n⟩, fun n => absurd c1 n⟩⟩
    · exact ⟨.inl (1, (T p).2.1), dr_l _, fun P k => ⟨fun _ => ⟨fun n => absurd n c2, fun _ => k⟩, fun n => absurd c1 n⟩⟩
  · exact ⟨.inl (1, (T p).2.1), dr_l _, fun P k => ⟨fun n => absurd n c1, fun _ => k⟩⟩
theorem dr_find {nm : Nat → List Int} {k : Int} {w : List Int} {K : Int → (rv_Om → Prop) → Prop} (hK : ∀ r : Int, (r = -1 ∨ (0 ≤ r ∧ r < k)) → rv_Dr (K r)) : rv_Dr (fun P => sp_find nm k w (fun r => K r P)) := by
  by_cases h : ∃ r : Nat, (r : Int) < k ∧ nm r = w ∧ ∀ j, j < r → nm j ≠ w
  · obtain ⟨r, h1, h2, h3⟩ := h
    obtain ⟨y, hr, hy⟩ := hK (r : Int) (Or.inr ⟨by omega, h1⟩)
    refine ⟨y, hr, fun P p => ⟨fun r' g1 g2 g3 => ?_, fun g => absurd h2 (g r h1)⟩⟩
    have e : r' = r := by
      rcases Nat.lt_trichotomy r' r with q | q | q
      · exact absurd g2 (h3 r' q)
      · exact q
      · exact absurd h2 (g3 r q)
    rw [e]; exact hy P p
  · obtain ⟨y, hr, hy⟩ := hK (-1) (Or.inl rfl)
    exact ⟨y, hr, fun P p => ⟨fun r' g1 g2 g3 => absurd ⟨r', g1, g2, g3⟩ h, fun _ => hy P p⟩⟩
end DR
/-! what rows do to it -/
section PS
variable {PL WA : Nat → Int} {TO BI : Nat → Nat → Int} {v v1 v2 v3 v4 : Int} {r j : Nat}
theorem rv_ps.pl (h : rv_ps PL WA TO BI) {PL' : Nat → Int} (e4 : PL' 4 = PL 4) (e5 : PL' 5 = PL 5) (e6 : 0 ≤ PL' 6 ∧ PL' 6 ≤ 99) (e7 : 0 ≤ PL' 7 ∧ PL' 7 ≤ 999) (e8 : 1 ≤ PL' 8 ∧ PL' 8 ≤ 12) : rv_ps PL' WA TO BI := by
  obtain ⟨a1, a2, a3, a4, a5, a6, a7, a8, a9⟩ := h
  refine ⟨by rw [e4]; exact a1, by rw [e5]; exact a2, e6, e7, e8, ?_, a7, ?_, e5.trans a9⟩
  · rw [e4]; exact a6
  · rw [e4]; exact a8
theorem rv_ps.wa (h : rv_ps PL WA TO BI) (hv : 0 ≤ v ∧ v ≤ 999) : rv_ps PL (rv_up WA j v) TO BI := by
  obtain ⟨a1, a2, a3, a4, a5, a6, a7, a8, a9⟩ := h
  refine ⟨a1, a2, a3, a4, a5, a6, fun k hk => ?_, a8, a9⟩
  by_cases e : k = j
  · subst e; rw [rv_up_s]; exact hv
  · rw [rv_up_n e]; exact a7 k hk
theorem rv_ps.to (h : rv_ps PL WA TO BI) (hr : (r : Int) < PL 4) (hv : 0 ≤ v ∧ v ≤ 999) : rv_ps PL WA (rv_up2 TO r j v) BI := by
  obtain ⟨a1, a2, a3, a4, a5, a6, a7, a8, a9⟩ := h
  refine ⟨a1, a2, a3, a4, a5, fun t k ht hk => ?_, a7, a8, a9⟩
  by_cases e : t = r ∧ k = j
  · obtain ⟨rfl, rfl⟩ := e; rw [rv_up2_s]; exact ⟨hv.1, hv.2, Or.inl hr⟩
  · rw [rv_up2_x e]; exact a6 t k ht hk
theorem rv_ps.bi (h : rv_ps PL WA TO BI) (hr : (r : Int) < PL 4) (hj : j < 12) (h0 : BI r j = 0) (h40 : ¬ 40 ≤ PL 5) (hv : 1 ≤ v ∧ v ≤ 999) : rv_ps (rv_up PL 5 (PL 5 + 1)) WA TO (rv_up2 BI r j v) := by
  obtain ⟨a1, a2, a3, a4, a5, a6, a7, a8, a9⟩ := h
  have n4 : rv_up PL 5 (PL 5 + 1) 4 = PL 4 := rv_up_n (by decide)
  refine ⟨by rw [n4]; exact a1, by rw [rv_up_s]; omega, by rw [rv_up_n (by decide)]; exact a3, by rw [rv_up_n (by decide)]; exact a4, by rw [rv_up_n (by decide)]; exact a5, by rw [n4]; exact a6, a7, fun t k ht hk => ?_, ?_⟩
  · rw [n4]
    by_cases e : t = r ∧ k = j
    · obtain ⟨rfl, rfl⟩ := e; rw [rv_up2_s]; exact ⟨by omega, hv.2, Or.inl hr⟩
    · rw [rv_up2_x e]; exact a8 t k ht hk
  · rw [rv_up_s, rv_ct_up (by omega) hj h0 (by omega), a9]
theorem rv_ps.town (h : rv_ps PL WA TO BI) (h8 : ¬ 8 ≤ PL 4) (b1 : 0 ≤ v1 ∧ v1 ≤ 99) (b2 : 0 ≤ v2 ∧ v2 ≤ 999) (b3 : 0 ≤ v3 ∧ v3 ≤ 99) (b4 : 0 ≤ v4 ∧ v4 ≤ 999) : rv_ps (rv_up PL 4 (PL 4 + 1)) WA (rv_up2 (rv_up2 (rv_up2 (rv_up2 TO (PL 4).toNat 0 v1) (PL 4).toNat 1 v2) (PL 4).toNat 2 v3) (PL 4).toNat 3 v4) BI := by
  obtain ⟨a1, a2, a3, a4, a5, a6, a7, a8, a9⟩ := h
  have h0 : rv_ps (rv_up PL 4 (PL 4 + 1)) WA TO BI := by
    refine ⟨by rw [rv_up_s]; omega, by rw [rv_up_n (by decide)]; exact a2, by rw [rv_up_n (by decide)]; exact a3, by rw [rv_up_n (by decide)]; exact a4, by rw [rv_up_n (by decide)]; exact a5, fun t k ht hk => ?_, a7, fun t k ht hk => ?_, by rw [rv_up_n (by decide)]; exact a9⟩
    · have := a6 t k ht hk; rw [rv_up_s]; exact ⟨this.1, this.2.1, this.2.2.imp (fun h => by omega) id⟩
    · have := a8 t k ht hk; rw [rv_up_s]; exact ⟨this.1, this.2.1, this.2.2.imp (fun h => by omega) id⟩
  have hr : (((PL 4).toNat : Nat) : Int) < rv_up PL 4 (PL 4 + 1) 4 := by rw [rv_up_s]; omega
  exact (((h0.to hr (v := v1) (j := 0) (by omega)).to hr (v := v2) (j := 1) (by omega)).to hr (v := v3) (j := 2) (by omega)).to hr (v := v4) (j := 3) (by omega)
end PS
section DS
variable {T : Nat → Nat × Nat × Int × List Int × Nat}
variable {PL WA OA : Nat → Int} {TO BI : Nat → Nat → Int} {nm : Nat → List Int} {q : Nat} {K : (Nat → Int) → (Nat → Int) → (Nat → Int) → (Nat → Nat → Int) → (Nat → Nat → Int) → (Nat → List Int) → Nat → (rv_Om → Prop) → Prop}
theorem dr_town (h : rv_ps PL WA TO BI) (hK : ∀ PL WA OA TO BI nm q', rv_ps PL WA TO BI → rv_Dr (K PL WA OA TO BI nm q')) : rv_Dr (fun P => sp_town T PL WA OA TO BI nm q (fun f a => P (.inl (f, a))) (fun PL WA OA TO BI nm q' => K PL WA OA TO BI nm q' P)) := by
  unfold sp_town
  exact dr_if (fun _ => dr_f _ _) (fun c => dr_nam (dr_find (fun r _ => dr_if (fun _ => dr_num (fun a1 b1 => dr_num (fun a2 b2 => dr_num (fun a3 b3 => dr_num (fun a4 b4 => hK _ _ _ _ _ _ _ (h.town c ⟨a1, b1⟩ ⟨a2, b2⟩ ⟨a3, b3⟩ ⟨a4, b4⟩)))))) (fun _ => dr_f _ _))))
theorem dr_water (h : rv_ps PL WA TO BI) (hK : ∀ PL WA OA TO BI nm q', rv_ps PL WA TO BI → rv_Dr (K PL WA OA TO BI nm q')) : rv_Dr (fun P => sp_water T PL WA OA TO BI nm q (fun f a => P (.inl (f, a))) (fun PL WA OA TO BI nm q' => K PL WA OA TO BI nm q' P)) := by
  unfold sp_water
  exact dr_num (fun _ _ => dr_if (fun _ => dr_num (fun a b => hK _ _ _ _ _ _ _ ((h.wa ⟨a, b⟩).pl (rv_up_n (by decide)) (rv_up_n (by decide)) (by rw [rv_up_n (by decide)]; exact h.2.2.1) (by rw [rv_up_n (by decide)]; exact h.2.2.2.1) (by rw [rv_up_n (by decide)]; exact h.2.2.2.2.1)))) (fun _ => dr_f _ _))
theorem dr_bid (h : rv_ps PL WA TO BI) (hK : ∀ PL WA OA TO BI nm q', rv_ps PL WA TO BI → rv_Dr (K PL WA OA TO BI nm q')) : rv_Dr (fun P => sp_bid T PL WA OA TO BI nm q (fun f a => P (.inl (f, a))) (fun PL WA OA TO BI nm q' => K PL WA OA TO BI nm q' P)) := by
  unfold sp_bid
  exact dr_if (fun _ => dr_f _ _) (fun c => dr_nam (dr_find (fun r hr => dr_if (fun _ => dr_f _ _) (fun n1 => dr_num (fun a b => dr_if (fun c0 => dr_num (fun a2 b2 => hK _ _ _ _ _ _ _ (h.bi (by omega) (by omega) c0 c ⟨a2, b2⟩))) (fun _ => dr_f _ _))))))
theorem dr_need (h : rv_ps PL WA TO BI) (hK : ∀ PL WA OA TO BI nm q', rv_ps PL WA TO BI → rv_Dr (K PL WA OA TO BI nm q')) : rv_Dr (fun P => sp_need T PL WA OA TO BI nm q (fun f a => P (.inl (f, a))) (fun PL WA OA TO BI nm q' => K PL WA OA TO BI nm q' P)) := by
  unfold sp_need
  exact dr_nam (dr_find (fun r hr => dr_if (fun _ => dr_f _ _) (fun n1 => dr_if (fun _ => dr_num (fun a b => hK _ _ _ _ _ _ _ (h.to (by omega) ⟨a, b⟩))) (fun _ => dr_f _ _))))
theorem dr_mill (h : rv_ps PL WA TO BI) (hK : ∀ PL WA OA TO BI nm q', rv_ps PL WA TO BI → rv_Dr (K PL WA OA TO BI nm q')) : rv_Dr (fun P => sp_mill T PL WA OA TO BI nm q (fun f a => P (.inl (f, a))) (fun PL WA OA TO BI nm q' => K PL WA OA TO BI nm q' P)) := by
  unfold sp_mill
  exact dr_nam (dr_find (fun r hr => dr_if (fun _ => dr_f _ _) (fun n1 => dr_if (fun _ => dr_num (fun a b => hK _ _ _ _ _ _ _ (h.to (by omega) ⟨a, by omega⟩))) (fun _ => dr_f _ _))))
theorem dr_bridge (h : rv_ps PL WA TO BI) (hK : ∀ PL WA OA TO BI nm q', rv_ps PL WA TO BI → rv_Dr (K PL WA OA TO BI nm q')) : rv_Dr (fun P => sp_bridge T PL WA OA TO BI nm q (fun f a => P (.inl (f, a))) (fun PL WA OA TO BI nm q' => K PL WA OA TO BI nm q' P)) := by
  unfold sp_bridge
  exact dr_nam (dr_find (fun r hr => dr_if (fun _ => dr_f _ _) (fun n1 => dr_if (fun _ => dr_num (fun a b => hK _ _ _ _ _ _ _ (h.to (by omega) ⟨a, by omega⟩))) (fun _ => dr_f _ _))))
theorem dr_field (h : rv_ps PL WA TO BI) (hK : ∀ PL WA OA TO BI nm q', rv_ps PL WA TO BI → rv_Dr (K PL WA OA TO BI nm q')) : rv_Dr (fun P => sp_field T PL WA OA TO BI nm q (fun f a => P (.inl (f, a))) (fun PL WA OA TO BI nm q' => K PL WA OA TO BI nm q' P)) := by
  unfold sp_field
  exact dr_nam (dr_find (fun r hr => dr_if (fun _ => dr_f _ _) (fun n1 => dr_if (fun _ => dr_num (fun a b => dr_num (fun a2 b2 => hK _ _ _ _ _ _ _ ((h.to (by omega) ⟨a2, by omega⟩).to (by omega) ⟨a, by omega⟩)))) (fun _ => dr_f _ _))))
theorem dr_move (h : rv_ps PL WA TO BI) (hK : ∀ PL WA OA TO BI nm q', rv_ps PL WA TO BI → rv_Dr (K PL WA OA TO BI nm q')) : rv_Dr (fun P => sp_move T PL WA OA TO BI nm q (fun f a => P (.inl (f, a))) (fun PL WA OA TO BI nm q' => K PL WA OA TO BI nm q' P)) := by
  unfold sp_move
  exact dr_if (fun _ => dr_num (fun a b => hK _ _ _ _ _ _ _ (h.pl ((rv_up_n (by decide)).trans (rv_up_n (by decide))) ((rv_up_n (by decide)).trans (rv_up_n (by decide))) (by rw [rv_up_s]; exact ⟨a, b⟩) (by rw [rv_up_n (by decide), rv_up_n (by decide)]; exact h.2.2.2.1) (by rw [rv_up_n (by decide), rv_up_n (by decide)]; exact h.2.2.2.2.1)))) (fun _ => dr_f _ _)
theorem dr_fish (h : rv_ps PL WA TO BI) (hK : ∀ PL WA OA TO BI nm q', rv_ps PL WA TO BI → rv_Dr (K PL WA OA TO BI nm q')) : rv_Dr (fun P => sp_fish T PL WA OA TO BI nm q (fun f a => P (.inl (f, a))) (fun PL WA OA TO BI nm q' => K PL WA OA TO BI nm q' P)) := by
  unfold sp_fish
  exact dr_if (fun _ => dr_num (fun a b => hK _ _ _ _ _ _ _ (h.pl ((rv_up_n (by decide)).trans (rv_up_n (by decide))) ((rv_up_n (by decide)).trans (rv_up_n (by decide))) (by rw [rv_up_n (by decide), rv_up_n (by decide)]; exact h.2.2.1) (by rw [rv_up_s]; exact ⟨a, b⟩) (by rw [rv_up_n (by decide), rv_up_n (by decide)]; exact h.2.2.2.2.1)))) (fun _ => dr_f _ _)
theorem dr_patience (h : rv_ps PL WA TO BI) (hK : ∀ PL WA OA TO BI nm q', rv_ps PL WA TO BI → rv_Dr (K PL WA OA TO BI nm q')) : rv_Dr (fun P => sp_patience T PL WA OA TO BI nm q (fun f a => P (.inl (f, a))) (fun PL WA OA TO BI nm q' => K PL WA OA TO BI nm q' P)) := by
  unfold sp_patience
  exact dr_if (fun _ => dr_num (fun a b => hK _ _ _ _ _ _ _ (h.pl ((rv_up_n (by decide)).trans (rv_up_n (by decide))) ((rv_up_n (by decide)).trans (rv_up_n (by decide))) (by rw [rv_up_n (by decide), rv_up_n (by decide)]; exact h.2.2.1) (by rw [rv_up_n (by decide), rv_up_n (by decide)]; exact h.2.2.2.1) (by rw [rv_up_s]; exact ⟨a, b⟩)))) (fun _ => dr_f _ _)
theorem dr_row (h : rv_ps PL WA TO BI) (hK : ∀ PL WA OA TO BI nm q', rv_ps PL WA TO BI → rv_Dr (K PL WA OA TO BI nm q')) : rv_Dr (fun P => sp_row T PL WA OA TO BI nm q (fun f a => P (.inl (f, a))) (fun PL WA OA TO BI nm q' => K PL WA OA TO BI nm q' P)) := by
  by_cases c : (T q).1 = 1 ∧ ¬ rv_nam (T q).2.2.2.1
  · have : ∃ j, j < 24 ∧ rv_rs.getD j [] = (T q).2.2.2.1 := Classical.byContradiction (fun g => c.2 (fun j hj e => g ⟨j, hj, e⟩))
    obtain ⟨j, j1, hj⟩ := this
    have key : rv_Dr (fun P => (j = 0 → sp_town T PL WA OA TO BI nm q (fun f a => P (.inl (f, a))) (fun PL WA OA TO BI nm q' => K PL WA OA TO BI nm q' P)) ∧ (j = 1 → sp_water T PL WA OA TO BI nm q (fun f a => P (.inl (f, a))) (fun PL WA OA TO BI nm q' => K PL WA OA TO BI nm q' P)) ∧ (j = 2 → sp_bid T PL WA OA TO BI nm q (fun f a => P (.inl (f, a))) (fun PL WA OA TO BI nm q' => K PL WA OA TO BI nm q' P)) ∧ (j = 3 → sp_need T PL WA OA TO BI nm q (fun f a => P (.inl (f, a))) (fun PL WA OA TO BI nm q' => K PL WA OA TO BI nm q' P)) ∧ (j = 4 → sp_mill T PL WA OA TO BI nm q (fun f a => P (.inl (f, a))) (fun PL WA OA TO BI nm q' => K PL WA OA TO BI nm q' P)) ∧ (j = 5 → sp_bridge T PL WA OA TO BI nm q (fun f a => P (.inl (f, a))) (fun PL WA OA TO BI nm q' => K PL WA OA TO BI nm q' P)) ∧ (j = 6 → sp_field T PL WA OA TO BI nm q (fun f a => P (.inl (f, a))) (fun PL WA OA TO BI nm q' => K PL WA OA TO BI nm q' P)) ∧ (j = 7 → sp_move T PL WA OA TO BI nm q (fun f a => P (.inl (f, a))) (fun PL WA OA TO BI nm q' => K PL WA OA TO BI nm q' P)) ∧ (j = 8 → sp_fish T PL WA OA TO BI nm q (fun f a => P (.inl (f, a))) (fun PL WA OA TO BI nm q' => K PL WA OA TO BI nm q' P)) ∧ (j = 9 → sp_patience T PL WA OA TO BI nm q (fun f a => P (.inl (f, a))) (fun PL WA OA TO BI nm q' => K PL WA OA TO BI nm q' P)) ∧ (10 ≤ j → P (.inl (1, (T q).2.1)))) := by
      rcases Nat.lt_or_ge j 10 with q1 | q1
      · have hjj : j = 0 ∨ j = 1 ∨ j = 2 ∨ j = 3 ∨ j = 4 ∨ j = 5 ∨ j = 6 ∨ j = 7 ∨ j = 8 ∨ j = 9 := by omega
        rcases hjj with rfl | rfl | rfl | rfl | rfl | rfl | rfl | rfl | rfl | rfl
        · obtain ⟨y, hr, hy⟩ := dr_town (T := T) (PL := PL) (WA := WA) (OA := OA) (TO := TO) (BI := BI) (nm := nm) (q := q) h hK
          exact ⟨y, hr, fun P p => ⟨fun _ => hy P p, fun e => absurd e (by decide), fun e => absurd e (by decide), fun e => absurd e (by decide), fun e => absurd e (by decide), fun e => absurd e (by decide), fun e => absurd e (by decide), fun e => absurd e (by decide), fun e => absurd e (by decide), fun e => absurd e (by decide), fun e => absurd e (by decide)⟩⟩
        · obtain ⟨y, hr, hy⟩ := dr_water (T := T) (PL := PL) (WA := WA) (OA := OA) (TO := TO) (BI := BI) (nm := nm) (q := q) h hK
          exact ⟨y, hr, fun P p => ⟨fun e => absurd e (by decide), fun _ => hy P p, fun e => absurd e (by decide), fun e => absurd e (by decide), fun e => absurd e (by decide), fun e => absurd e (by decide), fun e => absurd e (by decide), fun e => absurd e (by decide), fun e => absurd e (by decide), fun e => absurd e (by decide), fun e => absurd e (by decide)⟩⟩
        · obtain ⟨y, hr, hy⟩ := dr_bid (T := T) (PL := PL) (WA := WA) (OA := OA) (TO := TO) (BI := BI) (nm := nm) (q := q) h hK
          exact ⟨y, hr, fun P p => ⟨fun e => absurd e (by decide), fun e => absurd e (by decide), fun _ => hy P p, fun e => absurd e (by decide), fun e => absurd e (by decide), fun e => absurd e (by decide), fun e => absurd e (by decide), fun e => absurd e (by decide), fun e => absurd e (by decide), fun e => absurd e (by decide), fun e => absurd e (by decide)⟩⟩
        · obtain ⟨y, hr, hy⟩ := dr_need (T := T) (PL := PL) (WA := WA) (OA := OA) (TO := TO) (BI := BI) (nm := nm) (q := q) h hK
          exact ⟨y, hr, fun P p => ⟨fun e => absurd e (by decide), fun e => absurd e (by decide), fun e => absurd e (by decide), fun _ => hy P p, fun e => absurd e (by decide), fun e => absurd e (by decide), fun e => absurd e (by decide), fun e => absurd e (by decide), fun e => absurd e (by decide), fun e => absurd e (by decide), fun e => absurd e (by decide)⟩⟩
        · obtain ⟨y, hr, hy⟩ := dr_mill (T := T) (PL := PL) (WA := WA) (OA := OA) (TO := TO) (BI := BI) (nm := nm) (q := q) h hK
          exact ⟨y, hr, fun P p => ⟨fun e => absurd e (by decide), fun e => absurd e (by decide), fun e => absurd e (by decide), fun e => absurd e (by decide), fun _ => hy P p, fun e => absurd e (by decide), fun e => absurd e (by decide), fun e => absurd e (by decide), fun e => absurd e (by decide), fun e => absurd e (by decide), fun e => absurd e (by decide)⟩⟩
        · obtain ⟨y, hr, hy⟩ := dr_bridge (T := T) (PL := PL) (WA := WA) (OA := OA) (TO := TO) (BI := BI) (nm := nm) (q := q) h hK
          exact ⟨y, hr, fun P p => ⟨fun e => absurd e (by decide), fun e => absurd e (by decide), fun e => absurd e (by decide), fun e => absurd e (by decide), fun e => absurd e (by decide), fun _ => hy P p, fun e => absurd e (by decide), fun e => absurd e (by decide), fun e => absurd e (by decide), fun e => absurd e (by decide), fun e => absurd e (by decide)⟩⟩
        · obtain ⟨y, hr, hy⟩ := dr_field (T := T) (PL := PL) (WA := WA) (OA := OA) (TO := TO) (BI := BI) (nm := nm) (q := q) h hK
          exact ⟨y, hr, fun P p => ⟨fun e => absurd e (by decide), fun e => absurd e (by decide), fun e => absurd e (by decide), fun e => absurd e (by decide), fun e => absurd e (by decide), fun e => absurd e (by decide), fun _ => hy P p, fun e => absurd e (by decide), fun e => absurd e (by decide), fun e => absurd e (by decide), fun e => absurd e (by decide)⟩⟩
        · obtain ⟨y, hr, hy⟩ := dr_move (T := T) (PL := PL) (WA := WA) (OA := OA) (TO := TO) (BI := BI) (nm := nm) (q := q) h hK
          exact ⟨y, hr, fun P p => ⟨fun e => absurd e (by decide), fun e => absurd e (by decide), fun e => absurd e (by decide), fun e => absurd e (by decide), fun e => absurd e (by decide), fun e => absurd e (by decide), fun e => absurd e (by decide), fun _ => hy P p, fun e => absurd e (by decide), fun e => absurd e (by decide), fun e => absurd e (by decide)⟩⟩
        · obtain ⟨y, hr, hy⟩ := dr_fish (T := T) (PL := PL) (WA := WA) (OA := OA) (TO := TO) (BI := BI) (nm := nm) (q := q) h hK
          exact ⟨y, hr, fun P p => ⟨fun e => absurd e (by decide), fun e => absurd e (by decide), fun e => absurd e (by decide), fun e => absurd e (by decide), fun e => absurd e (by decide), fun e => absurd e (by decide), fun e => absurd e (by decide), fun e => absurd e (by decide), fun _ => hy P p, fun e => absurd e (by decide), fun e => absurd e (by decide)⟩⟩
        · obtain ⟨y, hr, hy⟩ := dr_patience (T := T) (PL := PL) (WA := WA) (OA := OA) (TO := TO) (BI := BI) (nm := nm) (q := q) h hK
          exact ⟨y, hr, fun P p => ⟨fun e => absurd e (by decide), fun e => absurd e (by decide), fun e => absurd e (by decide), fun e => absurd e (by decide), fun e => absurd e (by decide), fun e => absurd e (by decide), fun e => absurd e (by decide), fun e => absurd e (by decide), fun e => absurd e (by decide), fun _ => hy P p, fun e => absurd e (by decide)⟩⟩
      · exact ⟨.inl (1, (T q).2.1), dr_l _, fun P p => ⟨fun e => absurd e (by omega), fun e => absurd e (by omega), fun e => absurd e (by omega), fun e => absurd e (by omega), fun e => absurd e (by omega), fun e => absurd e (by omega), fun e => absurd e (by omega), fun e => absurd e (by omega), fun e => absurd e (by omega), fun e => absurd e (by omega), fun _ => p⟩⟩
    obtain ⟨y, hr, hy⟩ := key
    refine ⟨y, hr, fun P p => ⟨fun i i1 _ hi => ?_, fun n => absurd c n⟩⟩
    have e : i = j := rv_rs_i i i1 j j1 (hi.trans hj.symm)
    rw [e]; exact hy P p
  · exact ⟨.inl (1, (T q).2.1), dr_l _, fun P p => ⟨fun i i1 a b => absurd ⟨a, fun n => n i i1 b⟩ c, fun _ => p⟩⟩
theorem dr_rows : ∀ (f : Nat) (PL WA OA : Nat → Int) (TO BI : Nat → Nat → Int) (nm : Nat → List Int) (r q : Nat), rv_ps PL WA TO BI → rv_Dr (fun P => sp_rows T (fun f a => P (.inl (f, a))) (fun PL WA OA TO BI nm r => P (.inr (PL, WA, OA, TO, BI, nm, r))) f PL WA OA TO BI nm r q)
  | 0, _, _, _, _, _, _, _, _, _ => ⟨.inl (0, 0), dr_l _, fun _ _ => trivial⟩
  | f + 1, PL, WA, OA, TO, BI, nm, r, q, h => by
    by_cases c0 : (T q).1 = 0
    · exact ⟨.inr (PL, WA, OA, TO, BI, nm, r), fun _ _ _ _ _ _ _ e => by cases e; exact h, fun P p => ⟨fun _ => p, fun e => absurd (c0.symm.trans e) (by decide), fun n => absurd c0 n⟩⟩
    · by_cases c5 : (T q).1 = 5
      · exact ⟨.inl (1, (T q).2.1), dr_l _, fun P p => ⟨fun e => absurd e c0, fun _ => p, fun _ n => absurd c5 n⟩⟩
      · obtain ⟨y, hr, hy⟩ := dr_row (T := T) (PL := PL) (WA := WA) (OA := OA) (TO := TO) (BI := BI) (nm := nm) (q := q) (K := fun PL' WA' OA' TO' BI' nm' q' P => sp_sgn T 59 (rv_x T q') (fun f a => P (.inl (f, a))) (sp_rows T (fun f a => P (.inl (f, a))) (fun PL WA OA TO BI nm r => P (.inr (PL, WA, OA, TO, BI, nm, r))) f PL' WA' OA' TO' BI' nm' (r + 1) (rv_x T (rv_x T q')))) h (fun PL' WA' OA' TO' BI' nm' q' h' => dr_sgn (dr_rows f PL' WA' OA' TO' BI' nm' (r + 1) (rv_x T (rv_x T q')) h'))
        exact ⟨y, hr, fun P p => ⟨fun e => absurd e c0, fun e => absurd e c5, fun _ _ => hy P p⟩⟩
end DS
theorem rv_0.ps {PL WA OA : Nat → Int} {TO BI : Nat → Nat → Int} {NA : Nat → Int64} (h : rv_0 PL WA OA TO BI NA) : rv_ps PL WA TO BI := by
  obtain ⟨h1, h2, h4, h5, h6, h7, h8, -⟩ := h
  refine ⟨by omega, by omega, by omega, by omega, by omega, fun t v ht hv => ?_, fun v hv => ?_, fun t v ht hv => ?_, ?_⟩
  · have := (h1 t ht).2.2.1 v hv; omega
  · have := h2 v hv; omega
  · have := (h1 t ht).2.2.2 v hv; omega
  · rw [h5]; unfold rv_ct
    rw [lq_ct_cg (g := fun _ => 0) 96 (fun i hi => (h1 (i / 12) (by omega)).2.2.2 (i % 12) (by omega))]
    exact (by decide +kernel : (0 : Int) = lq_ct (fun _ => 0) 96)
end
section
/-! ===== plain, as the law's loop uses it ===== -/
def lp_5 (G : mj_G) (M : mj_M) : Prop := ∀ a, G a = (25104, 8) ∨ G a = (27104, 8) → ∀ s t, s < 8 → t < 8 → M.2.2 a s = M.2.2 a t → s = t
def lp_6 (G : mj_G) (M : mj_M) (tp m bc bt : Nat) : Prop := G bc = (38101, 940) ∧ G bt = (50101, 940) ∧ M.2.2 tp 0 = some bc ∧ M.2.2 m 1 = some bt ∧ rv_wl G M ∧ lp_5 G M
abbrev lp_6c (W : List (Nat × Nat × Nat)) : Prop := ∀ q ∈ W, q.1 ≠ 900105 ∧ q.1 ≠ 25104 ∧ q.1 ≠ 27104 ∧ ¬ (q.1 = 1008 ∧ q.2.1 ≤ 0) ∧ ¬ (q.1 = 1012 ∧ q.2.1 ≤ 1 ∧ 1 ≤ q.2.2)
abbrev lp_7c (W : List (Nat × Nat × Nat)) : Prop := ∀ q ∈ W, q.1 ≠ 38101 ∧ q.1 ≠ 50101
theorem lp_6.go {G : mj_G} {M M' : mj_M} {tp m bc bt : Nat} {W : List (Nat × Nat × Nat)} (h : lp_6 G M tp m bc bt) (gt : G tp = (1008, 0)) (gm : G m = (1012, 0)) (f : ab_frm W G M M') (nc : lp_6c W) : lp_6 G M' tp m bc bt := by
  obtain ⟨g1, g2, r1, r2, w, l5⟩ := h
  refine ⟨g1, g2, (f tp 0 ?_).2.trans r1, (f m 1 ?_).2.trans r2, fun a ha k hk => ?_, fun a ha s t hs ht e => ?_⟩
  · rw [gt]; rintro ⟨q, hq, e1, e2, e3⟩; exact (nc q hq).2.2.2.1 ⟨e1, e2⟩
  · rw [gm]; rintro ⟨q, hq, e1, e2, e3⟩; exact (nc q hq).2.2.2.2 ⟨e1, e2, e3⟩
  · obtain ⟨w1, e1, e2⟩ := w a ha k hk
    refine ⟨w1, (f a k ?_).2.trans e1, e2⟩
    rw [ha]; rintro ⟨q, hq, e1, -⟩; exact (nc q hq).1 e1
  · have fr : ∀ k, M'.2.2 a k = M.2.2 a k := fun k => (f a k (by
      rcases ha with ha | ha
      · rw [ha]; rintro ⟨q, hq, e1, -⟩; exact (nc q hq).2.1 e1
      · rw [ha]; rintro ⟨q, hq, e1, -⟩; exact (nc q hq).2.2.1 e1)).2
    rw [fr s, fr t] at e
    exact l5 a ha s t hs ht e
theorem lp_7.c {G : mj_G} {M M' : mj_M} {bc : Nat} {W : List (Nat × Nat × Nat)} (g : G bc = (38101, 940)) (f : ab_frm W G M M') (nc : ∀ q ∈ W, q.1 ≠ 38101) : M'.1 bc = M.1 bc := funext fun k => (f bc k (by rw [g]; rintro ⟨q, hq, e1, -⟩; exact nc q hq e1)).1
theorem lp_7.t {G : mj_G} {M M' : mj_M} {bt : Nat} {W : List (Nat × Nat × Nat)} (g : G bt = (50101, 940)) (f : ab_frm W G M M') (nc : ∀ q ∈ W, q.1 ≠ 50101) : M'.1 bt = M.1 bt := funext fun k => (f bt k (by rw [g]; rintro ⟨q, hq, e1, -⟩; exact nc q hq e1)).1
theorem rv_row {G : mj_G} {M : mj_M} {a t n u k w : Nat} (hI : ab_Inv G M) (ha : G a = (t, n)) (e : ab_rf t 0 = some (u, w)) (e' : ∀ k, ab_rf t k = ab_rf t 0) (h1 : u ≠ 0) (h2 : u ≠ 1) (h3 : u ≠ 50) (hk : k < n) : M.2.2 a k = some ((M.2.2 a k).getD 0) ∧ G ((M.2.2 a k).getD 0) = (u, w) := by
  obtain ⟨b, hb, gb⟩ := hn_rf (k := k) (q := (u, w)) hI ha ((e' k).trans e) h1 h2 h3 (fun _ => hk)
  rw [hb]; exact ⟨rfl, gb⟩
theorem lp_size {G : mj_G} {M : mj_M} {tp : Nat} (hI : ab_Inv G M) (g : G tp = (1008, 0)) : ∃ n : Nat, n ≤ 940 ∧ M.1 tp 1 = (n : Int) := by
  have h := hI.1 tp 1
  rw [g] at h
  have h : (0 : Int) ≤ M.1 tp 1 ∧ M.1 tp 1 ≤ 940 := h
  exact ⟨(M.1 tp 1).toNat, by omega, by omega⟩
theorem ab_rsv8 : ∀ k, k < 24 → ab_rsv k = rv_8 (rv_rs.getD k []) := by
  intro k hk
  have h : ∀ k : Fin 24, ab_rsv k.val = rv_8 (rv_rs.getD k.val []) := by decide +kernel
  exact h ⟨k, hk⟩
/-- two tellings of one call -/
theorem lp_and {y : Nat} {av : List mj_V} {G : mj_G} {M : mj_M} {R R' Q : mj_P} (hk : an_ok mj_tab 40 y = true) (h1 : mj_R mj_tab 40 y av G M R) (h2 : mj_R mj_tab 40 y av G M R') (h : ∀ r G M, R r G M → R' r G M → Q r G M) : mj_R mj_tab 40 y av G M Q := mj_R_mo mj_tab 40 _ _ _ _ _ _ (fun r G M q => h r G M q.1 q.2) (an_R mj_tab 40 y av G M R R' hk h1 h2)
theorem lp_ok4 : an_ok mj_tab 40 138 = true ∧ an_ok mj_tab 40 226 = true ∧ an_ok mj_tab 40 124 = true ∧ an_ok mj_tab 40 187 = true := by decide +kernel
/-! ===== the PLAINS behind a call that doesn't write them ===== -/
abbrev lq_9c (W : List (Nat × Nat × Nat)) : Prop := ∀ q ∈ W, q.1 ≠ 25104 ∧ q.1 ≠ 26100 ∧ q.1 ≠ 27104 ∧ q.1 ≠ 29100 ∧ q.1 ≠ 47106 ∧ ¬ (q.1 = 1004 ∧ q.2.1 < 9) ∧ ¬ (q.1 = 1011 ∧ q.2.1 ≤ 3) ∧ ¬ (q.1 = 1007 ∧ q.2.1 = 0) ∧ q.1 ≠ 28100
abbrev lq_8c (W : List (Nat × Nat × Nat)) : Prop := lq_9c W ∧ ∀ q ∈ W, q.1 ≠ 48102 ∧ q.1 ≠ 70100 ∧ ¬ (q.1 = 51100 ∧ q.2.1 < 184)
section GO
variable {G : mj_G} {M M' : mj_M} {w : Nat → Nat} {x p q P : Nat} {W : List (Nat × Nat × Nat)}
theorem lq_B.go (hB : lq_B M w x) (hA : lq_A G w) (gx : G x = (1011, 0)) (f : ab_frm W G M M') (c : lq_9c W) : lq_B M' w x := by
  obtain ⟨b1, b2, b3, b4, b5, b6, b7, b8⟩ := hB
  obtain ⟨-, a2, a3, a4, a5, a6, a7⟩ := hA
  have hx : ∀ k, k < 4 → M'.2.2 x k = M.2.2 x k := fun k hk => (f x k (by
    rw [gx]; rintro ⟨r, hr, e1, e2, e3⟩; exact (c r hr).2.2.2.2.2.2.1 ⟨e1, by omega⟩)).2
  have h9 : ∀ k, M'.2.2 (w 119) k = M.2.2 (w 119) k := fun k => (f _ k (by
    rw [a7]; rintro ⟨r, hr, e1, e2, e3⟩; exact (c r hr).2.2.2.2.1 e1)).2
  have h7 : ∀ a, G a = (1007, 0) → M'.2.2 a 0 = M.2.2 a 0 := fun a ha => (f _ 0 (by
    rw [ha]; rintro ⟨r, hr, e1, e2, e3⟩; exact (c r hr).2.2.2.2.2.2.2.1 ⟨e1, by omega⟩)).2
  refine ⟨fun P hP => ?_, (hx 1 (by decide)).trans b2, (hx 2 (by decide)).trans b3, (hx 3 (by decide)).trans b4, (h9 0).trans b5, (h9 1).trans b6, (h7 _ a5).trans b7, (h7 _ a6).trans b8⟩
  obtain ⟨g1, g2, g3, g4, g5, g6, g7⟩ := a2 P hP
  obtain ⟨c1, c2, c3, c4, c5, c6⟩ := b1 P hP
  have hp : ∀ k, k < 4 → M'.2.2 (w P) k = M.2.2 (w P) k := fun k hk => (f _ k (by
    rw [g1]; rintro ⟨r, hr, e1, e2, e3⟩; exact (c r hr).2.2.2.2.2.1 ⟨e1, by omega⟩)).2
  refine ⟨(hp 0 (by decide)).trans c1, (hp 1 (by decide)).trans c2, (hp 2 (by decide)).trans c3, (hp 3 (by decide)).trans c4, fun t ht => (f _ t ?_).2.trans (c5 t ht), fun t ht => (f _ t ?_).2.trans (c6 t ht)⟩
  · rw [g3]; rintro ⟨r, hr, e1, e2, e3⟩; exact (c r hr).1 e1
  · rw [g4]; rintro ⟨r, hr, e1, e2, e3⟩; exact (c r hr).2.2.1 e1
theorem lq_N.go (hN : lq_N M w p q) (hA : lq_A G w) (f : ab_frm W G M M') (c : lq_9c W) : lq_N M' w p q := by
  obtain ⟨n1, n2, n3⟩ := hN
  have h7 : ∀ a, G a = (1007, 0) → M'.2.2 a 0 = M.2.2 a 0 := fun a ha => (f _ 0 (by
    rw [ha]; rintro ⟨r, hr, e1, e2, e3⟩; exact (c r hr).2.2.2.2.2.2.2.1 ⟨e1, by omega⟩)).2
  exact ⟨(h7 _ hA.2.2.1).trans n1, (h7 _ hA.2.2.2.1).trans n2, n3⟩
/-- the numbers of a PLAIN that counts are as they were -/
def lq_E (w : Nat → Nat) (P : Nat) (M M' : mj_M) : Prop := (M'.1 (w P) 4 = M.1 (w P) 4 ∧ M'.1 (w P) 6 = M.1 (w P) 6 ∧ M'.1 (w P) 7 = M.1 (w P) 7 ∧ M'.1 (w P) 8 = M.1 (w P) 8) ∧ (∀ t v, t < 8 → v < 9 → M'.1 (w (P + 3 + t)) v = M.1 (w (P + 3 + t)) v) ∧ (∀ v, v < 12 → M'.1 (w (P + 20)) v = M.1 (w (P + 20)) v)
def lq_E6 (w : Nat → Nat) (P : Nat) (M M' : mj_M) : Prop := lq_E w P M M' ∧ M'.1 (w P) 5 = M.1 (w P) 5 ∧ (∀ t v, t < 8 → v < 12 → M'.1 (w (P + 12 + t)) v = M.1 (w (P + 12 + t)) v)
theorem lq_E6.go (hA : lq_A G w) (hP : P ∈ lq_Ps) (f : ab_frm W G M M') (c : lq_9c W) : lq_E6 w P M M' := by
  obtain ⟨g1, g2, g3, g4, g5, g6, g7⟩ := hA.2.1 P hP
  have hp : ∀ k, k < 9 → M'.1 (w P) k = M.1 (w P) k := fun k hk => (f _ k (by
    rw [g1]; rintro ⟨r, hr, e1, e2, e3⟩; exact (c r hr).2.2.2.2.2.1 ⟨e1, by omega⟩)).1
  refine ⟨⟨⟨hp 4 (by decide), hp 6 (by decide), hp 7 (by decide), hp 8 (by decide)⟩, fun t v ht hv => (f _ v ?_).1, fun v hv => (f _ v ?_).1⟩, hp 5 (by decide), fun t v ht hv => (f _ v ?_).1⟩
  · rw [g6 t ht]; rintro ⟨r, hr, e1, e2, e3⟩; exact (c r hr).2.1 e1
  · rw [g5]; rintro ⟨r, hr, e1, e2, e3⟩; exact (c r hr).2.2.2.1 e1
  · rw [g7 t ht]; rintro ⟨r, hr, e1, e2, e3⟩; exact (c r hr).2.2.2.2.2.2.2.2 e1
/-- a PLAIN with its bids and their count against numbers from o on -/
def rv_G6 (H : Nat → Int) (o : Nat) (w : Nat → Nat) (P : Nat) (M : mj_M) : Prop := rv_G4 H o w P M ∧ (∀ t v, t < 8 → v < 12 → H (o + (88 + 12 * t + v)) = M.1 (w (P + 12 + t)) v) ∧ M.1 (w P) 5 = lq_ct (fun i => H (o + (88 + i))) 96
theorem rv_G4.cg {H H' : Nat → Int} {o o' : Nat} (h : rv_G4 H o w P M) (e : lq_E w P M M') (eh : ∀ k, k < 88 → H' (o' + k) = H (o + k)) : rv_G4 H' o' w P M' := by
  obtain ⟨h1, h2, h3, h4, h5, h6⟩ := h
  obtain ⟨⟨e1, e2, e3, e4⟩, e5, e6⟩ := e
  refine ⟨(eh 0 (by decide)).trans (h1.trans e1.symm), (eh 1 (by decide)).trans (h2.trans e2.symm), (eh 2 (by decide)).trans (h3.trans e3.symm), (eh 3 (by decide)).trans (h4.trans e4.symm), fun t v ht hv => (eh _ (by omega)).trans ((h5 t v ht hv).trans (e5 t v ht hv).symm), fun v hv => (eh _ (by omega)).trans ((h6 v hv).trans (e6 v hv).symm)⟩
theorem rv_G6.cg {H H' : Nat → Int} {o o' : Nat} (h : rv_G6 H o w P M) (e : lq_E6 w P M M') (eh : ∀ k, k < 184 → H' (o' + k) = H (o + k)) : rv_G6 H' o' w P M' := by
  obtain ⟨h1, h2, h3⟩ := h
  obtain ⟨e1, e2, e3⟩ := e
  refine ⟨h1.cg e1 (fun k hk => eh k (by omega)), fun t v ht hv => (eh _ (by omega)).trans ((h2 t v ht hv).trans (e3 t v ht hv).symm), e2.trans (h3.trans (lq_ct_cg 96 (fun i hi => (eh _ (by omega)).symm)))⟩
/-- the PLAIN now and the images' of both sides -/
def lq_J (G : mj_G) (M : mj_M) (x s kp kc : Nat) (w : Nat → Nat) : Prop := lq_A G w ∧ lq_B M w x ∧ ∃ p q, lq_N M w p q ∧ rv_G6 (M.1 s) 0 w p M ∧ ∀ k, k < 2 → M.1 kc k ≠ 0 → rv_G6 (M.1 kp) (538 * k) w (lq_ip k) M
theorem lq_J.go {s kp kc : Nat} (h : lq_J G M x s kp kc w) (gx : G x = (1011, 0)) (gs : G s = (51100, 537)) (gk : G kp = (70100, 1076)) (gc : G kc = (48102, 2)) (f : ab_frm W G M M') (c : lq_8c W) : lq_J G M' x s kp kc w := by
  obtain ⟨hA, hB, p, q, hN, h1, h2⟩ := h
  have es : ∀ k, k < 184 → M'.1 s k = M.1 s k := fun k hk => (f _ k (by
    rw [gs]; rintro ⟨r, hr, e1, e2, e3⟩; exact (c.2 r hr).2.2 ⟨e1, by omega⟩)).1
  have ek : ∀ k, M'.1 kp k = M.1 kp k := fun k => (f _ k (by
    rw [gk]; rintro ⟨r, hr, e1, e2, e3⟩; exact (c.2 r hr).2.1 e1)).1
  have ec : ∀ k, M'.1 kc k = M.1 kc k := fun k => (f _ k (by
    rw [gc]; rintro ⟨r, hr, e1, e2, e3⟩; exact (c.2 r hr).1 e1)).1
  refine ⟨hA, hB.go hA gx f c.1, p, q, hN.go hA f c.1, h1.cg (lq_E6.go hA hN.pin.1 f c.1) (fun k hk => by rw [Nat.zero_add]; exact es k hk), fun k hk h0 => ?_⟩
  rw [ec k] at h0
  exact (h2 k hk h0).cg (lq_E6.go hA (lq_ip_in k) f c.1) (fun j _ => ek _)
end GO
end
section
/-! ===== at the loop's head: the tapes, the words, the rows ===== -/
theorem sz_ref {w : sx_w} {h : sx_H} {G : mj_G} {M : mj_M} {i k j : Nat} (hR : sx_RH w h G M) (hi : i < h.1) (h4 : k < 4096) (e : sx_g (sx_g h.2 i).2.2.2.2 k = some j) : M.2.2 (w.2.2.2 i) k = some (w.2.2.2 j) := by
  have r := ((hR.2.2.1 i hi).2.2 k h4).2.2
  rw [e] at r
  exact r.2
theorem sz_head2 {w : sx_w} {h : sx_H} {G : mj_G} {M : mj_M} (hR : sx_RH w h G M) (k2 : sz_hk h = true) : lp_6 (sz_G w h G) (sz_M w h G M) (w.2.2.2 27) (w.2.2.2 336) (w.2.2.2 28) (w.2.2.2 337) ∧ (sz_M w h G M).1 (w.2.2.2 28) = (sz_M w h G M).1 (w.2.2.2 337) := by
  have n1 := (sz_hk_s k2).1
  obtain ⟨d1, wt, t1, t2, r1, r2, z1, z2⟩ := sz_hx_s k2
  have cell : ∀ a t n, sz_G w h G a = (t, n) → t ≠ 0 → ∃ i, i < h.1 ∧ w.2.2.2 i = a ∧ (sx_g h.2 i).1 = t := by
    intro a t n hG ht
    by_cases c : ∃ i, i < h.1 ∧ w.2.2.2 i = a
    · obtain ⟨i, hi, rfl⟩ := c
      rw [sz_G_in hi, (hR.2.2.1 i hi).1] at hG
      exact ⟨i, hi, rfl, congrArg Prod.fst hG⟩
    · rw [sz_G_no c] at hG
      exact absurd (congrArg Prod.fst hG).symm ht
  refine ⟨⟨sz_tg_s t1 hR (by omega), sz_tg_s t2 hR (by omega), sz_rq_s r1 hR (by omega) (by decide), sz_rq_s r2 hR (by omega) (by decide), fun a ha k hk => ?_, fun a ha s t hs ht e => ?_⟩, funext fun k => ?_⟩
  · obtain ⟨i, hi, rfl, ht⟩ := cell a _ _ ha (by decide)
    obtain ⟨rfl, hp⟩ := (sz_d1_s (d1 i (by omega))).2.2 ht
    have hk1 : k + 1 < h.1 := by omega
    refine ⟨w.2.2.2 (1 + k), (show M.2.2 (w.2.2.2 25) k = some (w.2.2.2 (1 + k)) from sz_ref hR hi (by omega) (hp k hk)), ?_⟩
    rw [Nat.add_comm 1 k]
    exact sz_tg_s (wt k hk) hR hk1
  · have key : ∃ i, i < h.1 ∧ w.2.2.2 i = a ∧ ((sx_g h.2 i).1 = 25104 ∨ (sx_g h.2 i).1 = 27104) := by
      rcases ha with ha | ha
      · obtain ⟨i, hi, e1, e2⟩ := cell a _ _ ha (by decide)
        exact ⟨i, hi, e1, Or.inl e2⟩
      · obtain ⟨i, hi, e1, e2⟩ := cell a _ _ ha (by decide)
        exact ⟨i, hi, e1, Or.inr e2⟩
    obtain ⟨i, hi, rfl, ht2⟩ := key
    have hp := (sz_d1_s (d1 i (by omega))).2.1 ht2
    have e : M.2.2 (w.2.2.2 i) s = M.2.2 (w.2.2.2 i) t := e
    have q1 := sz_ref hR hi (show s < 4096 by omega) (hp s hs)
    have q2 := sz_ref hR hi (show t < 4096 by omega) (hp t ht)
    have b1 := ((hR.2.2.1 i hi).2.2 s (by omega)).2.2
    have b2 := ((hR.2.2.1 i hi).2.2 t (by omega)).2.2
    rw [hp s hs] at b1
    rw [hp t ht] at b2
    rw [q1, q2] at e
    have := hR.2.2.2 (i + 1 + s) (i + 1 + t) (by have := b1.1; have := hR.1; omega) (by have := b2.1; have := hR.1; omega) (Option.some.inj e)
    omega
  · have gg : ∀ i t, i < h.1 → sz_tg h i t 940 = true → 100 ≤ t % 1000 → sz_iz h i 940 = true → (sz_M w h G M).1 (w.2.2.2 i) k = 0 := by
      intro i t hi ht hm hz
      rcases Nat.lt_or_ge k 940 with q | q
      · exact sz_iz_s hz hR hi q (by omega)
      · refine sz_M_no (fun c => ?_)
        have g := sz_tg_s ht hR hi
        rw [sz_G_in hi] at g
        rw [g] at c
        have c2 := c.2
        rw [show sz_bd (t, 940).1 (t, 940).2 = 940 from sz_bd_a hm] at c2
        omega
    rw [gg 28 38101 (by omega) t1 (by decide) z1, gg 337 50101 (by omega) t2 (by decide) z2]
end
section
/-! ===== a PLAIN copied, as the invariant sees it ===== -/
section CQ
variable {G : mj_G} {M M' : mj_M} {w : Nat → Nat} {x p q P P' R : Nat}
theorem rv_G6.cp {H : Nat → Int} {o : Nat} (h : rv_G6 H o w P M) (c : lq_cp G w P P' M M') : rv_G6 H o w P' M' := by
  obtain ⟨⟨h1, h2, h3, h4, h5, h6⟩, h7, h8⟩ := h
  obtain ⟨c1, c2, c3, c4, -, -⟩ := c
  exact ⟨⟨h1.trans (c1 4 (by decide) (by decide)).symm, h2.trans (c1 6 (by decide) (by decide)).symm, h3.trans (c1 7 (by decide) (by decide)).symm, h4.trans (c1 8 (by decide) (by decide)).symm, fun t v ht hv => (h5 t v ht hv).trans (c2 t ht v hv).symm, fun v hv => (h6 v hv).trans (c4 v hv).symm⟩, fun t v ht hv => (h7 t v ht hv).trans (c3 t ht v hv).symm, (c1 5 (by decide) (by decide)).trans h8⟩
theorem lq_cp.E (hA : lq_A G w) (hP : P' ∈ lq_Ps) (hR : R ∈ lq_Ps) (hne : R ≠ P') (c : lq_cp G w P P' M M') : lq_E6 w R M M' := by
  obtain ⟨g1, g2, g3, g4, g5, g6, g7⟩ := hA.2.1 R hR
  have h4 := lq_P4 hP
  have h5 := lq_P4 hR
  have key : ∀ u, R ≤ u → u < R + 22 → rv_no (G (w u)).1 → M'.1 (w u) = M.1 (w u) := by
    intro u h1 h2 hn
    refine c.2.2.2.2.2 _ hn (fun e => ?_) (fun e => ?_) (fun t ht e => ?_) (fun t ht e => ?_)
    all_goals
      have := hA.1 _ _ (by omega) (by omega) e
      omega
  have k0 : M'.1 (w R) = M.1 (w R) := key R (by omega) (by omega) (by rw [g1]; unfold rv_no; decide)
  refine ⟨⟨⟨by rw [k0], by rw [k0], by rw [k0], by rw [k0]⟩, fun t v ht hv => ?_, fun v hv => ?_⟩, by rw [k0], fun t v ht hv => ?_⟩
  · rw [key (R + 3 + t) (by omega) (by omega) (by rw [g6 t ht]; unfold rv_no; decide)]
  · rw [key (R + 20) (by omega) (by omega) (by rw [g5]; unfold rv_no; decide)]
  · rw [key (R + 12 + t) (by omega) (by omega) (by rw [g7 t ht]; unfold rv_no; decide)]
theorem lq_cp.o (hA : lq_A G w) (hP : P' ∈ lq_Ps) (c : lq_cp G w P P' M M') {a t n : Nat} (ga : G a = (t, n)) (ha : rv_no t) (h1 : t ≠ 1004) (h2 : t ≠ 26100) (h3 : t ≠ 28100) (h4 : t ≠ 29100) : M'.1 a = M.1 a := by
  obtain ⟨g1, g2, g3, g4, g5, g6, g7⟩ := hA.2.1 P' hP
  exact c.2.2.2.2.2 a (by rw [ga]; exact ha) (hn_ne ga g1 h1) (hn_ne ga g5 h4) (fun t ht => hn_ne ga (g6 t ht) h2) (fun t ht => hn_ne ga (g7 t ht) h3)
theorem lq_cp.B (hA : lq_A G w) (gx : G x = (1011, 0)) (hB : lq_B M w x) (c : lq_cp G w P P' M M') : lq_B M' w x := hB.no hA gx c.2.2.2.2.1
theorem lq_cp.N (hA : lq_A G w) (hN : lq_N M w p q) (c : lq_cp G w P P' M M') : lq_N M' w p q :=
  ⟨(c.2.2.2.2.1 _ _ (lq_no29 hA).1).trans hN.1, (c.2.2.2.2.1 _ _ (lq_no29 hA).2).trans hN.2.1, hN.2.2⟩
theorem lq_E6.p0 {a k t n : Nat} {v : Int} (hA : lq_A G w) (hR : R ∈ lq_Ps) (ga : G a = (t, n)) (h1 : 1004 ≠ t) (h2 : 26100 ≠ t) (h4 : 29100 ≠ t) (h5 : 28100 ≠ t) : lq_E6 w R M (mj_p0 M a k v) := by
  obtain ⟨g1, g2, g3, g4, g5, g6, g7⟩ := hA.2.1 R hR
  exact ⟨⟨⟨hn_n (Or.inl (hn_ne g1 ga h1)), hn_n (Or.inl (hn_ne g1 ga h1)), hn_n (Or.inl (hn_ne g1 ga h1)), hn_n (Or.inl (hn_ne g1 ga h1))⟩, fun t v ht hv => hn_n (Or.inl (hn_ne (g6 t ht) ga h2)), fun v hv => hn_n (Or.inl (hn_ne g5 ga h4))⟩, hn_n (Or.inl (hn_ne g1 ga h1)), fun t v ht hv => hn_n (Or.inl (hn_ne (g7 t ht) ga h5))⟩
theorem lq_E.tr {M'' : mj_M} (h : lq_E w P M M') (h' : lq_E w P M' M'') : lq_E w P M M'' :=
  ⟨⟨h'.1.1.trans h.1.1, h'.1.2.1.trans h.1.2.1, h'.1.2.2.1.trans h.1.2.2.1, h'.1.2.2.2.trans h.1.2.2.2⟩, fun t v ht hv => (h'.2.1 t v ht hv).trans (h.2.1 t v ht hv), fun v hv => (h'.2.2 v hv).trans (h.2.2 v hv)⟩
theorem lq_E6.tr {M'' : mj_M} (h : lq_E6 w P M M') (h' : lq_E6 w P M' M'') : lq_E6 w P M M'' :=
  ⟨h.1.tr h'.1, h'.2.1.trans h.2.1, fun t v ht hv => (h'.2.2 t v ht hv).trans (h.2.2 t v ht hv)⟩
end CQ
end
section
/-! ===== image and restore of both sides ===== -/
section IR
variable {G : mj_G} {M M' : mj_M} {w : Nat → Nat} {x m s kp kc kr tp ud : Nat} {z1 : Int}
def lq_mk (M : mj_M) (kc kr : Nat) : Prop := ∀ k, k < 2 → M.1 kc k = M.1 kr k
/-- between image of the class and of the reference -/
def lq_i (G : mj_G) (M : mj_M) (x s kp kc kr : Nat) (w : Nat → Nat) (z1 : Int) : Prop := lq_A G w ∧ lq_B M w x ∧ ∃ p q, lq_N M w p q ∧ rv_G6 (M.1 s) 0 w p M ∧ ∀ k : Nat, k < 2 → (z1 ≠ (k : Int) → M.1 kc k = M.1 kr k ∧ (M.1 kc k ≠ 0 → rv_G6 (M.1 kp) (538 * k) w (lq_ip k) M)) ∧ (z1 = (k : Int) → M.1 kc k = 1 ∧ rv_G6 (M.1 s) 0 w (lq_ip k) M)
theorem lq_ip_ne {k j : Nat} (hk : k < 2) (hj : j < 2) (h : k ≠ j) : lq_ip k ≠ lq_ip j := by
  have : (k = 0 ∧ j = 1) ∨ (k = 1 ∧ j = 0) := by omega
  rcases this with ⟨rfl, rfl⟩ | ⟨rfl, rfl⟩ <;> decide
/-- what the class's image tells, raw -/
def lq_iy (G : mj_G) (M M' : mj_M) (kc : Nat) (w : Nat → Nat) (z1 : Int) : Prop := ∃ p q, lq_N M w p q ∧ (¬ (0 ≤ z1 ∧ z1 ≤ 1) → M' = M) ∧ (∀ k : Nat, k < 2 → z1 = (k : Int) → ∃ st M1, M' = mj_p0 M1 kc k 1 ∧ M1.1 kc = M.1 kc ∧ M.2.2 (w 119) k = some st ∧ rv_cr G (w 29) st (w (p + 1)) (w (lq_ip k + 1)) M M1)
theorem lq_img1 (hI : ab_Inv G M) (gx : G x = (1011, 0)) (gs : G s = (51100, 537)) (gk : G kp = (70100, 1076)) (x4 : M.2.2 x 4 = some kc) (gkc : G kc = (48102, 2)) (gkr : G kr = (72102, 2)) (hJ : lq_J G M x s kp kc w) (hm : lq_mk M kc kr) : mj_R mj_tab 40 127 [.inr (.inr (some x)), .inl z1] G M (fun _ G' M' => G' = G ∧ lq_i G M' x s kp kc kr w z1 ∧ lq_iy G M M' kc w z1) := by
  obtain ⟨hA, hB, p, q, hN, h1, h2⟩ := hJ
  refine r_X11_image4 hI gx hA hB hN x4 gkc (fun h0 => ⟨rfl, ⟨hA, hB, p, q, hN, h1, fun k hk => ⟨fun _ => ⟨hm k hk, h2 k hk⟩, fun e => absurd ⟨by omega, by omega⟩ h0⟩⟩, p, q, hN, fun _ => rfl, fun k hk e => absurd ⟨by omega, by omega⟩ h0⟩) (fun k0 hk0 e0 M1 c hcr => ?_)
  have no1 : rv_no 51100 ∧ rv_no 70100 ∧ rv_no 48102 ∧ rv_no 72102 := by
    refine ⟨?_, ?_, ?_, ?_⟩ <;> (unfold rv_no; decide)
  have ip := lq_ip_in k0
  have es : (mj_p0 M1 kc k0 1).1 s = M.1 s := (wz_c (hn_ne gs gkc (by decide))).trans (c.o hA ip gs no1.1 (by decide) (by decide) (by decide) (by decide))
  have ek : (mj_p0 M1 kc k0 1).1 kp = M.1 kp := (wz_c (hn_ne gk gkc (by decide))).trans (c.o hA ip gk no1.2.1 (by decide) (by decide) (by decide) (by decide))
  have er : (mj_p0 M1 kc k0 1).1 kr = M.1 kr := (wz_c (hn_ne gkr gkc (by decide))).trans (c.o hA ip gkr no1.2.2.2 (by decide) (by decide) (by decide) (by decide))
  have ec : ∀ k, k ≠ k0 → (mj_p0 M1 kc k0 1).1 kc k = M.1 kc k := fun k hk => (hn_n (Or.inr hk)).trans (congrFun (c.o hA ip gkc no1.2.2.1 (by decide) (by decide) (by decide) (by decide)) k)
  have E : ∀ R, R ∈ lq_Ps → R ≠ lq_ip k0 → lq_E6 w R M (mj_p0 M1 kc k0 1) := fun R hR hne => (c.E hA ip hR hne).tr (lq_E6.p0 hA hR gkc (by decide) (by decide) (by decide) (by decide))
  have B1 : lq_B M1 w x := c.B hA gx hB
  have N1 : lq_N M1 w p q := c.N hA hN
  refine ⟨rfl, ⟨hA, B1, p, q, N1, ?_, fun k hk => ⟨fun hz => ?_, fun hz => ?_⟩⟩, p, q, hN, fun n => absurd ⟨by omega, by omega⟩ n, fun k hk e => ?_⟩
  rotate_left 3
  · obtain rfl : k = k0 := by omega
    obtain ⟨st, e1, e2⟩ := hcr
    exact ⟨st, M1, rfl, c.o hA ip gkc no1.2.2.1 (by decide) (by decide) (by decide) (by decide), e1, e2⟩
  · rw [es]; exact h1.cg (E p hN.pin.1 (hN.pin.2 k0)) (fun _ _ => rfl)
  · have hne : k ≠ k0 := fun e => hz (by rw [e]; exact e0)
    rw [er, ec k hne, ek]
    exact ⟨hm k hk, fun h0 => (h2 k hk h0).cg (E _ (lq_ip_in k) (lq_ip_ne hk hk0 hne)) (fun _ _ => rfl)⟩
  · have e : k = k0 := by omega
    subst e
    refine ⟨hn_s, ?_⟩
    rw [es]
    exact (h1.cp c).cg (lq_E6.p0 hA ip gkc (by decide) (by decide) (by decide) (by decide)) (fun _ _ => rfl)
theorem lq_img2 (gx : G x = (1011, 0)) (gs : G s = (51100, 537)) (gkc : G kc = (48102, 2)) (h : lq_i G M x s kp kc kr w z1) (f : ab_frm hn_WI G M M') (o : (¬ (0 ≤ z1 ∧ z1 ≤ 1) ∧ (∀ q, M'.1 kr q = M.1 kr q) ∧ M'.1 kp = M.1 kp) ∨ (∃ k : Nat, k ≤ 1 ∧ z1 = (k : Int) ∧ M'.1 kr k = 1 ∧ (∀ q, q ≠ k → M'.1 kr q = M.1 kr q) ∧ (∀ p, p < 537 → M'.1 kp (538 * k + p) = M.1 s p) ∧ (∀ q, q < 538 * k ∨ 538 * k + 538 ≤ q → M'.1 kp q = M.1 kp q))) : lq_J G M' x s kp kc w ∧ lq_mk M' kc kr := by
  obtain ⟨hA, hB, p, q, hN, h1, h2⟩ := h
  have c9 : lq_9c hn_WI := by decide
  have es : M'.1 s = M.1 s := funext fun k => (f s k (by rw [gs]; exact hn_nt (by decide))).1
  have ec : M'.1 kc = M.1 kc := funext fun k => (f kc k (by rw [gkc]; exact hn_nt (by decide))).1
  have E : ∀ R, R ∈ lq_Ps → lq_E6 w R M M' := fun R hR => lq_E6.go hA hR f c9
  have B := hB.go hA gx f c9
  have N := hN.go hA f c9
  have H1 : rv_G6 (M'.1 s) 0 w p M' := by rw [es]; exact h1.cg (E p hN.pin.1) (fun _ _ => rfl)
  rcases o with ⟨n1, n2, n3⟩ | ⟨k0, j1, j2, j3, j4, j5, j6⟩
  · refine ⟨⟨hA, B, p, q, N, H1, fun k hk h0 => ?_⟩, fun k hk => ?_⟩
    · rw [ec] at h0; rw [n3]
      exact (((h2 k hk).1 (by omega)).2 h0).cg (E _ (lq_ip_in k)) (fun _ _ => rfl)
    · rw [ec, n2]; exact ((h2 k hk).1 (by omega)).1
  · refine ⟨⟨hA, B, p, q, N, H1, fun k hk h0 => ?_⟩, fun k hk => ?_⟩
    · rw [ec] at h0
      by_cases e : k = k0
      · subst e
        exact ((h2 k hk).2 j2).2.cg (E _ (lq_ip_in k)) (fun i hi => by rw [Nat.zero_add]; exact j5 i (by omega))
      · exact (((h2 k hk).1 (by omega)).2 h0).cg (E _ (lq_ip_in k)) (fun i hi => j6 _ (by omega))
    · rw [ec]
      by_cases e : k = k0
      · subst e; rw [j3]; exact ((h2 k hk).2 j2).1
      · rw [j4 k e]; exact ((h2 k hk).1 (by omega)).1
end IR
end
section
/-! ===== restore of both sides; worth of the class ===== -/
section RW
variable {G : mj_G} {M M' : mj_M} {w : Nat → Nat} {x m s kp kc kr tp ud : Nat} {z1 : Int}
/-- between restore of the class and of the reference -/
def lq_r (G : mj_G) (M : mj_M) (x s kp kc kr : Nat) (w : Nat → Nat) (z1 : Int) : Prop := lq_A G w ∧ lq_B M w x ∧ lq_mk M kc kr ∧ ∃ p q, lq_N M w p q ∧ (∀ k, k < 2 → M.1 kc k ≠ 0 → rv_G6 (M.1 kp) (538 * k) w (lq_ip k) M) ∧ ((∀ k : Nat, k < 2 → z1 = (k : Int) → M.1 kc k = 0) → rv_G6 (M.1 s) 0 w p M) ∧ (∀ k : Nat, k < 2 → z1 = (k : Int) → M.1 kc k ≠ 0 → rv_G6 (M.1 kp) (538 * k) w p M)
/-- what the class's restore tells, raw -/
def lq_ry (G : mj_G) (M M' : mj_M) (kc ud : Nat) (w : Nat → Nat) (z1 : Int) : Prop := ∃ p q, lq_N M w p q ∧ ((∀ k : Nat, k < 2 → z1 = (k : Int) → M.1 kc k = 0) → M' = M) ∧ (∀ k : Nat, k < 2 → z1 = (k : Int) → M.1 kc k ≠ 0 → ∃ st M1, M' = mj_p0 M1 ud 3 0 ∧ M.2.2 (w 119) k = some st ∧ rv_cr G st (w 29) (w (lq_ip k + 1)) (w (p + 1)) M M1)
theorem lq_rst1 (hI : ab_Inv G M) (gx : G x = (1011, 0)) (gs : G s = (51100, 537)) (gk : G kp = (70100, 1076)) (x4 : M.2.2 x 4 = some kc) (gkc : G kc = (48102, 2)) (gkr : G kr = (72102, 2)) (x5 : M.2.2 x 5 = some ud) (gud : G ud = (1009, 0)) (hJ : lq_J G M x s kp kc w) (hm : lq_mk M kc kr) : mj_R mj_tab 40 144 [.inr (.inr (some x)), .inl z1] G M (fun _ G' M' => G' = G ∧ lq_r G M' x s kp kc kr w z1 ∧ ((∀ k : Nat, k < 2 → z1 = (k : Int) → M.1 kc k = 0) → M'.1 ud = M.1 ud) ∧ (∀ k : Nat, k < 2 → z1 = (k : Int) → M.1 kc k ≠ 0 → M'.1 ud 3 = 0) ∧ lq_ry G M M' kc ud w z1) := by
  obtain ⟨hA, hB, p, q, hN, h1, h2⟩ := hJ
  refine r_X11_restore4 hI gx hA hB hN x4 gkc x5 gud (fun h0 => ?_) (fun k0 hk0 e0 hc0 M1 c hcr => ?_)
  · have no : ∀ k : Nat, k < 2 → z1 = (k : Int) → M.1 kc k ≠ 0 → False := fun k hk e hc => by
      rcases h0 with h0 | ⟨j, hj, e1, e2⟩
      · exact absurd ⟨by omega, by omega⟩ h0
      · have : j = k := by omega
        subst this; exact absurd e2 hc
    exact ⟨rfl, ⟨hA, hB, hm, p, q, hN, h2, fun _ => h1, fun k hk e hc => (no k hk e hc).elim⟩, fun _ => rfl, (fun k hk e hc => (no k hk e hc).elim), p, q, hN, (fun _ => rfl), fun k hk e hc => (no k hk e hc).elim⟩
  have no1 : rv_no 51100 ∧ rv_no 70100 ∧ rv_no 48102 ∧ rv_no 72102 := by
    refine ⟨?_, ?_, ?_, ?_⟩ <;> (unfold rv_no; decide)
  have pi := hN.pin.1
  have ek : (mj_p0 M1 ud 3 0).1 kp = M.1 kp := (wz_c (hn_ne gk gud (by decide))).trans (c.o hA pi gk no1.2.1 (by decide) (by decide) (by decide) (by decide))
  have er : (mj_p0 M1 ud 3 0).1 kr = M.1 kr := (wz_c (hn_ne gkr gud (by decide))).trans (c.o hA pi gkr no1.2.2.2 (by decide) (by decide) (by decide) (by decide))
  have ec : (mj_p0 M1 ud 3 0).1 kc = M.1 kc := (wz_c (hn_ne gkc gud (by decide))).trans (c.o hA pi gkc no1.2.2.1 (by decide) (by decide) (by decide) (by decide))
  have B1 : lq_B M1 w x := c.B hA gx hB
  have N1 : lq_N M1 w p q := c.N hA hN
  refine ⟨rfl, ⟨hA, B1, fun k hk => by rw [ec, er]; exact hm k hk, p, q, N1, fun k hk h0 => ?_, fun h => ?_, fun k hk e _ => ?_⟩, fun h => absurd (h k0 hk0 e0) hc0, (fun _ _ _ _ => hn_s), p, q, hN, (fun h => absurd (h k0 hk0 e0) hc0), fun k hk e _ => ?_⟩
  rotate_left 3
  · obtain rfl : k = k0 := by omega
    obtain ⟨st, e1, e2⟩ := hcr
    exact ⟨st, M1, rfl, e1, e2⟩
  · rw [ec] at h0; rw [ek]
    exact (h2 k hk h0).cg ((c.E hA pi (lq_ip_in k) (fun e => hN.pin.2 k e.symm)).tr (lq_E6.p0 hA (lq_ip_in k) gud (by decide) (by decide) (by decide) (by decide))) (fun _ _ => rfl)
  · have := h k0 hk0 e0
    rw [ec] at this
    exact absurd this hc0
  · have : k = k0 := by omega
    subst this
    rw [ek]
    exact ((h2 k hk hc0).cp c).cg (lq_E6.p0 hA pi gud (by decide) (by decide) (by decide) (by decide)) (fun _ _ => rfl)
theorem lq_rst2 (gx : G x = (1011, 0)) (gk : G kp = (70100, 1076)) (gkc : G kc = (48102, 2)) (gkr : G kr = (72102, 2)) (h : lq_r G M x s kp kc kr w z1) (f : ab_frm hn_WR G M M') (o : ((¬ (0 ≤ z1 ∧ z1 ≤ 1) ∨ M.1 kr z1.toNat = 0) ∧ M'.1 s = M.1 s) ∨ (∃ k : Nat, k ≤ 1 ∧ z1 = (k : Int) ∧ M.1 kr k ≠ 0 ∧ (∀ p, p < 537 → M'.1 s p = M.1 kp (538 * k + p)))) : lq_J G M' x s kp kc w ∧ lq_mk M' kc kr := by
  obtain ⟨hA, hB, hm, p, q, hN, h2, h3, h4⟩ := h
  have c9 : lq_9c hn_WR := by decide
  have ek : M'.1 kp = M.1 kp := funext fun k => (f kp k (by rw [gk]; exact hn_nt (by decide))).1
  have ec : M'.1 kc = M.1 kc := funext fun k => (f kc k (by rw [gkc]; exact hn_nt (by decide))).1
  have er : M'.1 kr = M.1 kr := funext fun k => (f kr k (by rw [gkr]; exact hn_nt (by decide))).1
  have E : ∀ R, R ∈ lq_Ps → lq_E6 w R M M' := fun R hR => lq_E6.go hA hR f c9
  have B := hB.go hA gx f c9
  have N := hN.go hA f c9
  refine ⟨⟨hA, B, p, q, N, ?_, fun k hk h0 => ?_⟩, fun k hk => by rw [ec, er]; exact hm k hk⟩
  · rcases o with ⟨n1, n2⟩ | ⟨k0, j1, j2, j3, j4⟩
    · rw [n2]
      refine (h3 (fun k hk e => ?_)).cg (E p hN.pin.1) (fun _ _ => rfl)
      rcases n1 with n1 | n1
      · exact absurd ⟨by omega, by omega⟩ n1
      · rw [hm k hk]; rw [e] at n1; exact n1
    · exact (h4 k0 (by omega) j2 (by rw [hm k0 (by omega)]; exact j3)).cg (E p hN.pin.1) (fun i hi => by rw [Nat.zero_add]; exact j4 i (by omega))
  · rw [ec] at h0; rw [ek]
    exact (h2 k hk h0).cg (E _ (lq_ip_in k)) (fun _ _ => rfl)
end RW
end
section
/-! ===== worth of the class, as the invariant sees it ===== -/
section WQ
variable {G : mj_G} {M M' : mj_M} {w : Nat → Nat} {x s kp kc p q R : Nat} {z1 : Int}
theorem lq_u.E6 (hA : lq_A G w) (hq : q ∈ lq_Ps) (hR : R ∈ lq_Ps) (hne : R ≠ q) (u : lq_u G w q M M') : lq_E6 w R M M' := by
  obtain ⟨g1, g2, g3, g4, g5, g6, g7⟩ := hA.2.1 R hR
  have h4 := lq_P4 hq
  have h5 := lq_P4 hR
  have key : ∀ v, R ≤ v → v < R + 22 → rv_no (G (w v)).1 → M'.1 (w v) = M.1 (w v) := by
    intro v h1 h2 hn
    refine u.2.1 _ hn (fun j hj e => ?_)
    have := hA.1 _ _ (by omega) (by omega) e
    omega
  have k0 : M'.1 (w R) = M.1 (w R) := key R (by omega) (by omega) (by rw [g1]; unfold rv_no; decide)
  refine ⟨⟨⟨by rw [k0], by rw [k0], by rw [k0], by rw [k0]⟩, fun t v ht hv => ?_, fun v hv => ?_⟩, by rw [k0], fun t v ht hv => ?_⟩
  · rw [key (R + 3 + t) (by omega) (by omega) (by rw [g6 t ht]; unfold rv_no; decide)]
  · rw [key (R + 20) (by omega) (by omega) (by rw [g5]; unfold rv_no; decide)]
  · rw [key (R + 12 + t) (by omega) (by omega) (by rw [g7 t ht]; unfold rv_no; decide)]
theorem lq_wor (hI : ab_Inv G M) (gx : G x = (1011, 0)) (hJ : lq_J G M x s kp kc w) : mj_R mj_tab 40 157 [.inr (.inr (some x)), .inl z1] G M (fun _ G' M' => G' = G ∧ (M'.1 s = M.1 s → M'.1 kp = M.1 kp → M'.1 kc = M.1 kc → lq_J G M' x s kp kc w) ∧ ∃ p q, lq_N M w p q ∧ lq_N M' w p q ∧ ∀ a k, (G a).1 % 1000 = 103 → a ≠ w (q + 1) → M'.2.1 a k = M.2.1 a k) := by
  obtain ⟨hA, hB, p, q, hN, h1, h2⟩ := hJ
  refine r_X11_worth4 hI gx hA hB hN (fun z M' u => ⟨rfl, fun es ek ec => ?_, p, q, hN, ⟨(u.1 _ _ (lq_no29 hA).1).trans hN.1, (u.1 _ _ (lq_no29 hA).2).trans hN.2.1, hN.2.2⟩, u.2.2⟩)
  have hq := hN.qin
  have nq : ∀ k, lq_ip k ≠ q := fun k => by
    rcases hN.2.2 with ⟨-, rfl⟩ | ⟨-, rfl⟩ <;> (unfold lq_ip; split <;> decide)
  refine ⟨hA, hB.no hA gx u.1, p, q, ⟨(u.1 _ _ (lq_no29 hA).1).trans hN.1, (u.1 _ _ (lq_no29 hA).2).trans hN.2.1, hN.2.2⟩, ?_, fun k hk h0 => ?_⟩
  · rw [es]; exact h1.cg (u.E6 hA hq.1 hN.pin.1 hq.2) (fun _ _ => rfl)
  · rw [ec] at h0; rw [ek]
    exact (h2 k hk h0).cg (u.E6 hA hq.1 (lq_ip_in k) (nq k)) (fun _ _ => rfl)
end WQ
end
section
/-! ===== plain of both sides, as the invariant sees it ===== -/
/-- an outcome of plain, as the bytes ask for it -/
def rv_z4 (f : Nat → Int) (n : Nat) (y : rv_Om) : Prop := ∃ PL WA OA TO BI NA, rv_0 PL WA OA TO BI NA ∧ ∀ P : rv_Om → Prop, P y → sp_rows (rv_T (fun k => rv_u8 (f k)) n 900) (fun f a => P (.inl (f, a))) (fun PL WA OA TO BI nm r => P (.inr (PL, WA, OA, TO, BI, nm, r))) (n + 1) PL WA OA TO BI (fun _ => []) 0 0
def rv_va (y : rv_Om) : Int := Sum.elim (fun e => rv_vf e.2) (fun e => ((e.2.2.2.2.2.2 : Nat) : Int)) y
theorem rv_va_l (e : Int × Nat) : rv_va (.inl e) = rv_vf e.2 := by unfold rv_va; rw [Sum.elim_inl]
theorem rv_va_r (e : (Nat → Int) × (Nat → Int) × (Nat → Int) × (Nat → Nat → Int) × (Nat → Nat → Int) × (Nat → List Int) × Nat) : rv_va (.inr e) = ((e.2.2.2.2.2.2 : Nat) : Int) := by unfold rv_va; rw [Sum.elim_inr]
section PQ
variable {G : mj_G} {M M' : mj_M} {w : Nat → Nat} {x m s kp kc tp bc bt p q n R ud : Nat}
/-- the PLAIN of cell p, as told -/
def lq_pv (w : Nat → Nat) (p : Nat) (PL WA : Nat → Int) (TO BI : Nat → Nat → Int) (M : mj_M) : Prop := rv_ps PL WA TO BI ∧ (∀ k, k ≠ 9 → M.1 (w p) k = PL k) ∧ M.1 (w (p + 20)) = WA ∧ (∀ t, t < 8 → M.1 (w (p + 3 + t)) = TO t) ∧ (∀ t, t < 8 → M.1 (w (p + 12 + t)) = BI t)
/-- between plain of the class and of the reference -/
def lq_p (G : mj_G) (M : mj_M) (x s kp kc : Nat) (w : Nat → Nat) (y : rv_Om) : Prop := lq_A G w ∧ lq_B M w x ∧ ∃ p q, lq_N M w p q ∧ (∀ k, k < 2 → M.1 kc k ≠ 0 → rv_G6 (M.1 kp) (538 * k) w (lq_ip k) M) ∧ (∀ e, y = .inl e → rv_G6 (M.1 s) 0 w p M) ∧ (∀ PL WA OA TO BI nm r, y = .inr (PL, WA, OA, TO, BI, nm, r) → lq_pv w p PL WA TO BI M)
theorem lq_B.rt (hB : lq_B M w x) (hA : lq_A G w) (gx : G x = (1011, 0)) (gt : G tp = (1008, 0)) (e : ∀ a j, a ≠ tp → a ≠ w 29 → a ≠ w 74 → M'.2.2 a j = M.2.2 a j) : lq_B M' w x := by
  obtain ⟨b1, b2, b3, b4, b5, b6, b7, b8⟩ := hB
  obtain ⟨ai, a2, a3, a4, a5, a6, a7⟩ := hA
  have ne : ∀ {a t n : Nat}, G a = (t, n) → t ≠ 1008 → t ≠ 1007 → ∀ j, M'.2.2 a j = M.2.2 a j := fun ga h1 h2 j => e _ j (hn_ne ga gt h1) (hn_ne ga a3 h2) (hn_ne ga a4 h2)
  refine ⟨fun P hP => ?_, (ne gx (by decide) (by decide) 1).trans b2, (ne gx (by decide) (by decide) 2).trans b3, (ne gx (by decide) (by decide) 3).trans b4, (ne a7 (by decide) (by decide) 0).trans b5, (ne a7 (by decide) (by decide) 1).trans b6, (e _ 0 (hn_ne a5 gt (by decide)) (fun h => absurd (ai _ _ (by decide) (by decide) h) (by decide)) (fun h => absurd (ai _ _ (by decide) (by decide) h) (by decide))).trans b7, (e _ 0 (hn_ne a6 gt (by decide)) (fun h => absurd (ai _ _ (by decide) (by decide) h) (by decide)) (fun h => absurd (ai _ _ (by decide) (by decide) h) (by decide))).trans b8⟩
  obtain ⟨g1, g2, g3, g4, g5, g6, g7⟩ := a2 P hP
  obtain ⟨c1, c2, c3, c4, c5, c6⟩ := b1 P hP
  exact ⟨(ne g1 (by decide) (by decide) 0).trans c1, (ne g1 (by decide) (by decide) 1).trans c2, (ne g1 (by decide) (by decide) 2).trans c3, (ne g1 (by decide) (by decide) 3).trans c4, fun t ht => (ne g3 (by decide) (by decide) t).trans (c5 t ht), fun t ht => (ne g4 (by decide) (by decide) t).trans (c6 t ht)⟩
theorem lq_kE (hA : lq_A G w) (hq : q ∈ lq_Ps) (hR : R ∈ lq_Ps) (hne : R ≠ q) (u : ∀ a, (G a).1 = 1004 ∨ (G a).1 = 26100 ∨ (G a).1 = 29100 ∨ (G a).1 = 28100 → (∀ j, j < 22 → a ≠ w (q + j)) → M'.1 a = M.1 a) : lq_E6 w R M M' := by
  obtain ⟨g1, g2, g3, g4, g5, g6, g7⟩ := hA.2.1 R hR
  have h4 := lq_P4 hq
  have h5 := lq_P4 hR
  have key : ∀ v, R ≤ v → v < R + 22 → ((G (w v)).1 = 1004 ∨ (G (w v)).1 = 26100 ∨ (G (w v)).1 = 29100 ∨ (G (w v)).1 = 28100) → M'.1 (w v) = M.1 (w v) := by
    intro v h1 h2 hn
    refine u _ hn (fun j hj e => ?_)
    have := hA.1 _ _ (by omega) (by omega) e
    omega
  have k0 : M'.1 (w R) = M.1 (w R) := key R (by omega) (by omega) (Or.inl (by rw [g1]))
  refine ⟨⟨⟨by rw [k0], by rw [k0], by rw [k0], by rw [k0]⟩, fun t v ht hv => ?_, fun v hv => ?_⟩, by rw [k0], fun t v ht hv => ?_⟩
  · rw [key (R + 3 + t) (by omega) (by omega) (Or.inr (Or.inl (by rw [g6 t ht])))]
  · rw [key (R + 20) (by omega) (by omega) (Or.inr (Or.inr (Or.inl (by rw [g5]))))]
  · rw [key (R + 12 + t) (by omega) (by omega) (Or.inr (Or.inr (Or.inr (by rw [g7 t ht]))))]
theorem lq_N.nip (hN : lq_N M w p q) : ∀ k, lq_ip k ≠ q := fun k => by
  rcases hN.2.2 with ⟨-, rfl⟩ | ⟨-, rfl⟩ <;> (unfold lq_ip; split <;> decide)
/-- all that the class's plain tells, raw -/
def lq_py (G : mj_G) (M M' : mj_M) (x tp : Nat) (w : Nat → Nat) (y : rv_Om) : Prop := ∃ p q oa dl fa sa ca se ye ud, lq_N M w p q ∧ G oa = (30100, 8) ∧ rv_X G M x tp (w q) (w 74) (w 29) (w p) dl fa sa ca se ye ud ∧ (∀ e, y = .inl e → rv_PG x tp (w q) (w (q + 1)) (w (q + 20)) oa (fun t => w (q + 3 + t)) (fun t => w (q + 12 + t)) M M') ∧ (∀ PL WA OA TO BI nm r, y = .inr (PL, WA, OA, TO, BI, nm, r) → rv_PO x tp (w q) (w (q + 1)) (w (q + 20)) oa (w 74) (w 29) (w p) dl fa sa ca se ye ud (fun t => w (q + 3 + t)) (fun t => w (q + 12 + t)) PL WA OA TO BI nm M M' ∧ rv_P2 x (w q) dl fa sa ca se ye ud M M')
/-- what the reference's plain tells beside -/
def lq_pz (M M' : mj_M) (s m : Nat) (y : rv_Om) : Prop := (∀ e, y = .inl e → ∃ ha, rv_sw M s m ha M') ∧ (∀ PL WA OA TO BI nm r, y = .inr (PL, WA, OA, TO, BI, nm, r) → ∃ ns, M.2.2 m 9 = some ns ∧ rv_QX M m ns M')
set_option maxRecDepth 100000 in
theorem lq_pl1 (inv : ab_Inv G M) (gx : G x = (1011, 0)) (gtp : G tp = (1008, 0)) (gs : G s = (51100, 537)) (gk : G kp = (70100, 1076)) (gkc : G kc = (48102, 2)) (x0 : M.2.2 x 0 = some tp) (x5 : M.2.2 x 5 = some ud) (gud : G ud = (1009, 0)) (h6 : lp_6 G M tp m bc bt) (hJ : lq_J G M x s kp kc w) (hn : n ≤ 940) (hs : M.1 tp 1 = (n : Int)) : mj_R mj_tab 40 138 [.inr (.inr (some x))] G M (fun r G' M' => ∃ y, rv_z4 (M.1 bc) n y ∧ r = some (.inl (rv_va y)) ∧ G' = G ∧ lq_p G M' x s kp kc w y ∧ (∀ e, y = .inl e → M'.1 ud = M.1 ud) ∧ (∀ e, y = .inr e → M'.1 ud 3 = 0) ∧ lq_py G M M' x tp w y) := by
  obtain ⟨gbc, gbt, t0, m1, wl, l5⟩ := h6
  obtain ⟨hA, hB, p, q, hN, h1, h2⟩ := hJ
  obtain ⟨hq, hpq⟩ := hN.qin
  have hp := hN.pin.1
  have g29 := hA.2.2.1
  have g74 := hA.2.2.2.1
  obtain ⟨gpl, gna, gta, gba, gwa, gtr, gbr, itr, ibr, p0, p1, p2, p3, rt, rb⟩ := lq_K hA hB hq
  obtain ⟨gpn, -⟩ := hA.2.1 p hp
  obtain ⟨dl, w1, gdl⟩ := hn_rf (k := 1) (q := (1002, 0)) inv g29 rfl (by decide) (by decide) (by decide) (fun e => absurd e (by decide))
  obtain ⟨se, w2, gse⟩ := hn_rf (k := 2) (q := (1006, 0)) inv g29 rfl (by decide) (by decide) (by decide) (fun e => absurd e (by decide))
  obtain ⟨ye, w3, gye⟩ := hn_rf (k := 3) (q := (1010, 0)) inv g29 rfl (by decide) (by decide) (by decide) (fun e => absurd e (by decide))
  obtain ⟨fa, d0, gfa⟩ := hn_rf (k := 0) (q := (16100, 12)) inv gdl rfl (by decide) (by decide) (by decide) (fun e => absurd e (by decide))
  obtain ⟨sa, d1, gsa⟩ := hn_rf (k := 1) (q := (17100, 12)) inv gdl rfl (by decide) (by decide) (by decide) (fun e => absurd e (by decide))
  obtain ⟨ca, d2, gca⟩ := hn_rf (k := 2) (q := (18100, 12)) inv gdl rfl (by decide) (by decide) (by decide) (fun e => absurd e (by decide))
  obtain ⟨oa, p10, goa⟩ := hn_rf (k := 10) (q := (30100, 8)) inv gpl rfl (by decide) (by decide) (by decide) (fun e => absurd e (by decide))
  have hAT : rv_AT G M (fun k => rv_u8 (M.1 bc k)) n 900 tp bc (w q) (w (q + 1)) (w (q + 2)) (w (q + 11)) (w (q + 20)) oa (fun t => w (q + 3 + t)) (fun t => w (q + 12 + t)) (rv_T (fun k => rv_u8 (M.1 bc k)) n 900) :=
    ⟨⟨gtp, gbc, gpl, gna, gta, gba, gwa, goa, gtr, gbr, itr, ibr, t0, p0, p1, p2, p3, p10, rt, rb, fun _ => rfl, wl, hn, by decide, inv.2.2.2.1⟩, rfl⟩
  have hX : rv_X G M x tp (w q) (w 74) (w 29) (w p) dl fa sa ca se ye ud := ⟨⟨gx, g74, g29, gse, gye, gud, gdl, gfa, gsa, gca, d0, d1, d2⟩, x0, hB.2.1, hB.2.2.1, x5, hN.2.1, hN.1, w1, w2, w3⟩
  have h4 := lq_P4 hq
  refine r_X11_plain4 (d := 32) hAT hX hs (fun PL WA OA TO BI NA h0 => ?_)
  obtain ⟨y, hrg, hy⟩ := dr_rows (T := rv_T (fun k => rv_u8 (M.1 bc k)) n 900) (n + 1) PL WA OA TO BI (fun _ => []) 0 0 h0.ps
  have hz : rv_z4 (M.1 bc) n y := ⟨PL, WA, OA, TO, BI, NA, h0, hy⟩
  have key0 : (∀ f a, y = .inl (f, a) → ∀ M', rv_PG x tp (w q) (w (q + 1)) (w (q + 20)) oa (fun t => w (q + 3 + t)) (fun t => w (q + 12 + t)) M M' → ∃ y, rv_z4 (M.1 bc) n y ∧ (some (.inl (rv_vf a)) : Option mj_V) = some (.inl (rv_va y)) ∧ G = G ∧ lq_p G M' x s kp kc w y ∧ (∀ e, y = .inl e → M'.1 ud = M.1 ud) ∧ (∀ e, y = .inr e → M'.1 ud 3 = 0) ∧ lq_py G M M' x tp w y) ∧ (∀ PL WA OA TO BI nm r, y = .inr (PL, WA, OA, TO, BI, nm, r) → rv_pb PL → ∀ M', rv_PO x tp (w q) (w (q + 1)) (w (q + 20)) oa (w 74) (w 29) (w p) dl fa sa ca se ye ud (fun t => w (q + 3 + t)) (fun t => w (q + 12 + t)) PL WA OA TO BI nm M M' → rv_P2 x (w q) dl fa sa ca se ye ud M M' → ∃ y, rv_z4 (M.1 bc) n y ∧ (some (.inl ((r : Nat) : Int)) : Option mj_V) = some (.inl (rv_va y)) ∧ G = G ∧ lq_p G M' x s kp kc w y ∧ (∀ e, y = .inl e → M'.1 ud = M.1 ud) ∧ (∀ e, y = .inr e → M'.1 ud 3 = 0) ∧ lq_py G M M' x tp w y) := by
    refine ⟨fun f a ey => ?_, fun PL' WA' OA' TO' BI' nm' r' ey => ?_⟩
    all_goals subst ey
    · intro M' ⟨⟨f2, fl, f1⟩, f13⟩
      have key : ∀ {a t u : Nat}, G a = (t, u) → t ≠ 1011 → t ≠ 1008 → t ≠ 30100 → (∀ j, j < 22 → a ≠ w (q + j)) → M'.1 a = M.1 a := fun ga n1 n2 n3 hj => f1 _ (hn_ne ga gx n1) (hn_ne ga gtp n2) (hj 0 (by decide)) (hj 20 (by decide)) (hn_ne ga goa n3) (fun t ht => by have := hj (3 + t) (by omega); rw [← Nat.add_assoc] at this; exact this) (fun t ht => by have := hj (12 + t) (by omega); rw [← Nat.add_assoc] at this; exact this)
      have tg : ∀ {a t u : Nat}, G a = (t, u) → t ≠ 1004 → t ≠ 24103 → t ≠ 25104 → t ≠ 26100 → t ≠ 27104 → t ≠ 28100 → t ≠ 29100 → t ≠ 30100 → t ≠ 1011 → t ≠ 1008 → M'.1 a = M.1 a := fun ga n1 n2 n3 n4 n5 n6 n7 n8 n9 n10 => f1 _ (hn_ne ga gx n9) (hn_ne ga gtp n10) (hn_ne ga gpl n1) (hn_ne ga gwa n7) (hn_ne ga goa n8) (fun t ht => hn_ne ga (gtr t ht) n4) (fun t ht => hn_ne ga (gbr t ht) n6)
      have es : M'.1 s = M.1 s := tg gs (by decide) (by decide) (by decide) (by decide) (by decide) (by decide) (by decide) (by decide) (by decide) (by decide)
      have ek : M'.1 kp = M.1 kp := tg gk (by decide) (by decide) (by decide) (by decide) (by decide) (by decide) (by decide) (by decide) (by decide) (by decide)
      have ec : M'.1 kc = M.1 kc := tg gkc (by decide) (by decide) (by decide) (by decide) (by decide) (by decide) (by decide) (by decide) (by decide) (by decide)
      have E : ∀ R, R ∈ lq_Ps → R ≠ q → lq_E6 w R M M' := fun R hR hne => lq_kE hA hq hR hne (fun a ha hj => by
        rcases ha with ha | ha | ha | ha
        · exact key (u := (G a).2) (Prod.ext ha rfl) (by decide) (by decide) (by decide) hj
        · exact key (u := (G a).2) (Prod.ext ha rfl) (by decide) (by decide) (by decide) hj
        · exact key (u := (G a).2) (Prod.ext ha rfl) (by decide) (by decide) (by decide) hj
        · exact key (u := (G a).2) (Prod.ext ha rfl) (by decide) (by decide) (by decide) hj)
      have rf : ∀ a j, a ≠ tp → M'.2.2 a j = M.2.2 a j := fun a j ha => f2 a j (fun e => ha e.1)
      refine ⟨.inl (f, a), hz, (by rw [rv_va_l]), rfl, ⟨hA, hB.rt hA gx gtp (fun a j h _ _ => rf a j h), p, q, ⟨(rf _ _ (hn_ne g29 gtp (by decide))).trans hN.1, (rf _ _ (hn_ne g74 gtp (by decide))).trans hN.2.1, hN.2.2⟩, fun k hk hc => ?_, fun _ _ => ?_, fun _ _ _ _ _ _ _ e => by cases e⟩, fun _ _ => tg gud (by decide) (by decide) (by decide) (by decide) (by decide) (by decide) (by decide) (by decide) (by decide) (by decide), (fun _ e => by cases e), p, q, oa, dl, fa, sa, ca, se, ye, ud, hN, goa, hX, (fun _ _ => ⟨⟨f2, fl, f1⟩, f13⟩), (fun _ _ _ _ _ _ _ e => by cases e)⟩
      · rw [ec] at hc; rw [ek]
        exact (h2 k hk hc).cg (E _ (lq_ip_in k) (hN.nip k)) (fun _ _ => rfl)
      · rw [es]; exact h1.cg (E p hp hpq) (fun _ _ => rfl)
    · intro hb M' ⟨o1, o2, o3, o4, o5, o6, o7, o8, o9, fo⟩ hP2
      have tg : ∀ {a t u : Nat}, G a = (t, u) → t ≠ 1011 → t ≠ 1008 → t ≠ 30100 → t ≠ 1002 → t ≠ 16100 → t ≠ 17100 → t ≠ 18100 → t ≠ 1006 → t ≠ 1010 → t ≠ 1009 → (∀ j, j < 22 → a ≠ w (q + j)) → M'.1 a = M.1 a := fun ga n1 n2 n3 n4 n5 n6 n7 n8 n9 n10 hj => fo _ (hn_ne ga gx n1) (hn_ne ga gtp n2) (hj 0 (by decide)) (hj 20 (by decide)) (hn_ne ga goa n3) (fun t ht => by have := hj (3 + t) (by omega); rw [← Nat.add_assoc] at this; exact this) (fun t ht => by have := hj (12 + t) (by omega); rw [← Nat.add_assoc] at this; exact this) (hn_ne ga gdl n4) (hn_ne ga gfa n5) (hn_ne ga gsa n6) (hn_ne ga gca n7) (hn_ne ga gse n8) (hn_ne ga gye n9) (hn_ne ga gud n10)
      have ek : M'.1 kp = M.1 kp := fo _ (hn_ne gk gx (by decide)) (hn_ne gk gtp (by decide)) (hn_ne gk gpl (by decide)) (hn_ne gk gwa (by decide)) (hn_ne gk goa (by decide)) (fun t ht => hn_ne gk (gtr t ht) (by decide)) (fun t ht => hn_ne gk (gbr t ht) (by decide)) (hn_ne gk gdl (by decide)) (hn_ne gk gfa (by decide)) (hn_ne gk gsa (by decide)) (hn_ne gk gca (by decide)) (hn_ne gk gse (by decide)) (hn_ne gk gye (by decide)) (hn_ne gk gud (by decide))
      have ec : M'.1 kc = M.1 kc := fo _ (hn_ne gkc gx (by decide)) (hn_ne gkc gtp (by decide)) (hn_ne gkc gpl (by decide)) (hn_ne gkc gwa (by decide)) (hn_ne gkc goa (by decide)) (fun t ht => hn_ne gkc (gtr t ht) (by decide)) (fun t ht => hn_ne gkc (gbr t ht) (by decide)) (hn_ne gkc gdl (by decide)) (hn_ne gkc gfa (by decide)) (hn_ne gkc gsa (by decide)) (hn_ne gkc gca (by decide)) (hn_ne gkc gse (by decide)) (hn_ne gkc gye (by decide)) (hn_ne gkc gud (by decide))
      have E : ∀ R, R ∈ lq_Ps → R ≠ q → lq_E6 w R M M' := fun R hR hne => lq_kE hA hq hR hne (fun a ha hj => by
        rcases ha with ha | ha | ha | ha
        · exact tg (u := (G a).2) (Prod.ext ha rfl) (by decide) (by decide) (by decide) (by decide) (by decide) (by decide) (by decide) (by decide) (by decide) (by decide) hj
        · exact tg (u := (G a).2) (Prod.ext ha rfl) (by decide) (by decide) (by decide) (by decide) (by decide) (by decide) (by decide) (by decide) (by decide) (by decide) hj
        · exact tg (u := (G a).2) (Prod.ext ha rfl) (by decide) (by decide) (by decide) (by decide) (by decide) (by decide) (by decide) (by decide) (by decide) (by decide) hj
        · exact tg (u := (G a).2) (Prod.ext ha rfl) (by decide) (by decide) (by decide) (by decide) (by decide) (by decide) (by decide) (by decide) (by decide) (by decide) hj)
      have ne2 : w 74 ≠ w 29 := fun e => absurd (hA.1 _ _ (by decide) (by decide) e) (by decide)
      refine ⟨.inr (PL', WA', OA', TO', BI', nm', r'), hz, (by rw [rv_va_r]), rfl, ⟨hA, hB.rt hA gx gtp (fun a j ha hb hc => o8 a j (fun e => ha e.1) (fun e => hb e.1) (fun e => hc e.1)), q, p, ⟨o6, o7 ne2, hN.2.2.elim (fun h => Or.inr ⟨h.2, h.1⟩) (fun h => Or.inl ⟨h.2, h.1⟩)⟩, fun k hk hc => ?_, fun _ e => (by cases e), fun PL2 WA2 OA2 TO2 BI2 nm2 r2 e => ?_⟩, fun _ e => (by cases e), fun _ _ => hP2.1, p, q, oa, dl, fa, sa, ca, se, ye, ud, hN, goa, hX, (fun _ e => by cases e), fun PL3 WA3 OA3 TO3 BI3 nm3 r3 e => by cases e; exact ⟨⟨o1, o2, o3, o4, o5, o6, o7, o8, o9, fo⟩, hP2⟩⟩
      · rw [ec] at hc; rw [ek]
        exact (h2 k hk hc).cg (E _ (lq_ip_in k) (hN.nip k)) (fun _ _ => rfl)
      · cases e
        exact ⟨hrg _ _ _ _ _ _ _ rfl, o1, o2, o3, o4⟩
  exact sp_rows.mono (fun f a h => h.1 f a rfl) (fun PL WA OA TO BI nm r h => h.2 PL WA OA TO BI nm r rfl) _ _ _ _ _ _ _ _ _ (hy (fun o => (∀ f a, o = .inl (f, a) → ∀ M', rv_PG x tp (w q) (w (q + 1)) (w (q + 20)) oa (fun t => w (q + 3 + t)) (fun t => w (q + 12 + t)) M M' → ∃ y, rv_z4 (M.1 bc) n y ∧ (some (.inl (rv_vf a)) : Option mj_V) = some (.inl (rv_va y)) ∧ G = G ∧ lq_p G M' x s kp kc w y ∧ (∀ e, y = .inl e → M'.1 ud = M.1 ud) ∧ (∀ e, y = .inr e → M'.1 ud 3 = 0) ∧ lq_py G M M' x tp w y) ∧ (∀ PL WA OA TO BI nm r, o = .inr (PL, WA, OA, TO, BI, nm, r) → rv_pb PL → ∀ M', rv_PO x tp (w q) (w (q + 1)) (w (q + 20)) oa (w 74) (w 29) (w p) dl fa sa ca se ye ud (fun t => w (q + 3 + t)) (fun t => w (q + 12 + t)) PL WA OA TO BI nm M M' → rv_P2 x (w q) dl fa sa ca se ye ud M M' → ∃ y, rv_z4 (M.1 bc) n y ∧ (some (.inl ((r : Nat) : Int)) : Option mj_V) = some (.inl (rv_va y)) ∧ G = G ∧ lq_p G M' x s kp kc w y ∧ (∀ e, y = .inl e → M'.1 ud = M.1 ud) ∧ (∀ e, y = .inr e → M'.1 ud 3 = 0) ∧ lq_py G M M' x tp w y)) key0)
theorem lq_pl2 {f : Nat → Int} {y : rv_Om} (hV : lw_V G M x m tp s kp) (gbt : G bt = (50101, 940)) (m1 : M.2.2 m 1 = some bt) (hf : M.1 bt = f) (hn : n ≤ 940) (hs : M.1 m 2 = (n : Int)) (hz : rv_z4 f n y) : mj_R mj_tab 40 226 [.inr (.inr (some m))] G M (fun r _ M' => r = some (.inl (rv_va y)) ∧ (∀ e, y = .inl e → M'.1 s = M.1 s ∧ M'.1 m 28 = M.1 m 28) ∧ (∀ PL WA OA TO BI nm r, y = .inr (PL, WA, OA, TO, BI, nm, r) → ∃ ns, M.2.2 m 9 = some ns ∧ rv_QO s ns PL WA TO BI nm M' ∧ M'.1 m 28 = 0) ∧ lq_pz M M' s m y) := by
  obtain ⟨inv, ⟨gx, gm, gtp, gs, -⟩, ⟨x0, m6, -⟩, -⟩ := hV
  obtain ⟨ha, h7, gha⟩ := hn_rf (k := 7) (q := (52100, 221)) inv gm rfl (by decide) (by decide) (by decide) (fun e => absurd e (by decide))
  obtain ⟨hd, h23, ghd⟩ := hn_rf (k := 23) (q := (56100, 4)) inv gm rfl (by decide) (by decide) (by decide) (fun e => absurd e (by decide))
  obtain ⟨ns, h9, gns⟩ := hn_rf (k := 9) (q := (54103, 16)) inv gm rfl (by decide) (by decide) (by decide) (fun e => absurd e (by decide))
  obtain ⟨rs, h10, grs⟩ := hn_rf (k := 10) (q := (55103, 24)) inv gm rfl (by decide) (by decide) (by decide) (fun e => absurd e (by decide))
  obtain ⟨PL, WA, OA, TO, BI, NA, h0, hy⟩ := hz
  have hB : rv_BT G M (fun k => rv_u8 (f k)) n 900 m bt ha hd ns rs s (rv_T (fun k => rv_u8 (f k)) n 900) := ⟨⟨gm, gbt, gha, ghd, gns, grs, m1, h7, h23, h9, h10, fun k => by rw [hf], fun k hk => (inv.2.2.2.2 rs k (by rw [grs]) hk).trans (ab_rsv8 k hk), hn, by decide, gs, m6⟩, rfl⟩
  have key0 : (∀ f a, y = .inl (f, a) → ∀ M', rv_sw M s m ha M' → (some (.inl (rv_vf a)) : Option mj_V) = some (.inl (rv_va y)) ∧ (∀ e, y = .inl e → M'.1 s = M.1 s ∧ M'.1 m 28 = M.1 m 28) ∧ (∀ PL WA OA TO BI nm r, y = .inr (PL, WA, OA, TO, BI, nm, r) → ∃ ns, M.2.2 m 9 = some ns ∧ rv_QO s ns PL WA TO BI nm M' ∧ M'.1 m 28 = 0) ∧ lq_pz M M' s m y) ∧ (∀ PL WA OA TO BI nm r, y = .inr (PL, WA, OA, TO, BI, nm, r) → ∀ M', rv_QO s ns PL WA TO BI nm M' → M'.1 m 28 = 0 ∧ rv_QX M m ns M' → (some (.inl ((r : Nat) : Int)) : Option mj_V) = some (.inl (rv_va y)) ∧ (∀ e, y = .inl e → M'.1 s = M.1 s ∧ M'.1 m 28 = M.1 m 28) ∧ (∀ PL WA OA TO BI nm r, y = .inr (PL, WA, OA, TO, BI, nm, r) → ∃ ns, M.2.2 m 9 = some ns ∧ rv_QO s ns PL WA TO BI nm M' ∧ M'.1 m 28 = 0) ∧ lq_pz M M' s m y) := by
    refine ⟨fun f a ey M' es => ?_, fun PL' WA' OA' TO' BI' nm' r' ey M' hQ h28 => ?_⟩
    · subst ey
      refine ⟨by rw [rv_va_l], fun _ _ => ⟨es.1, es.2.1 28 (by decide)⟩, fun _ _ _ _ _ _ _ e => ?_, fun _ _ => ⟨ha, es⟩, fun _ _ _ _ _ _ _ e => ?_⟩
      · cases e
      · cases e
    · subst ey
      refine ⟨by rw [rv_va_r], fun _ e => ?_, fun PL2 WA2 OA2 TO2 BI2 nm2 r2 e => ?_, fun _ e => ?_, fun PL2 WA2 OA2 TO2 BI2 nm2 r2 e => ?_⟩
      · cases e
      · cases e
        exact ⟨ns, h9, hQ, h28.1⟩
      · cases e
      · exact ⟨ns, h9, h28.2⟩
  refine r_X12_plain2 (d := 33) hB hs h0 ?_
  exact sp_rows.mono (fun f a h => h.1 f a rfl) (fun PL WA OA TO BI nm r h => h.2 PL WA OA TO BI nm r rfl) _ _ _ _ _ _ _ _ _ (hy (fun o => (∀ f a, o = .inl (f, a) → ∀ M', rv_sw M s m ha M' → (some (.inl (rv_vf a)) : Option mj_V) = some (.inl (rv_va y)) ∧ (∀ e, y = .inl e → M'.1 s = M.1 s ∧ M'.1 m 28 = M.1 m 28) ∧ (∀ PL WA OA TO BI nm r, y = .inr (PL, WA, OA, TO, BI, nm, r) → ∃ ns, M.2.2 m 9 = some ns ∧ rv_QO s ns PL WA TO BI nm M' ∧ M'.1 m 28 = 0) ∧ lq_pz M M' s m y) ∧ (∀ PL WA OA TO BI nm r, o = .inr (PL, WA, OA, TO, BI, nm, r) → ∀ M', rv_QO s ns PL WA TO BI nm M' → M'.1 m 28 = 0 ∧ rv_QX M m ns M' → (some (.inl ((r : Nat) : Int)) : Option mj_V) = some (.inl (rv_va y)) ∧ (∀ e, y = .inl e → M'.1 s = M.1 s ∧ M'.1 m 28 = M.1 m 28) ∧ (∀ PL WA OA TO BI nm r, y = .inr (PL, WA, OA, TO, BI, nm, r) → ∃ ns, M.2.2 m 9 = some ns ∧ rv_QO s ns PL WA TO BI nm M' ∧ M'.1 m 28 = 0) ∧ lq_pz M M' s m y)) key0)
theorem lq_pl3 {y : rv_Om} {W : List (Nat × Nat × Nat)} (gx : G x = (1011, 0)) (gk : G kp = (70100, 1076)) (gkc : G kc = (48102, 2)) (h : lq_p G M x s kp kc w y) (f : ab_frm W G M M') (c9 : lq_9c W) (c8 : ∀ q ∈ W, q.1 ≠ 48102 ∧ q.1 ≠ 70100) (o1 : ∀ e, y = .inl e → M'.1 s = M.1 s) (o2 : ∀ PL WA OA TO BI nm r, y = .inr (PL, WA, OA, TO, BI, nm, r) → ∃ ns, rv_QO s ns PL WA TO BI nm M') : lq_J G M' x s kp kc w := by
  obtain ⟨hA, hB, p, q, hN, h2, h1, h3⟩ := h
  have ek : M'.1 kp = M.1 kp := funext fun k => (f _ k (by
    rw [gk]; rintro ⟨r, hr, e1, e2, e3⟩; exact (c8 r hr).2 e1)).1
  have ec : M'.1 kc = M.1 kc := funext fun k => (f _ k (by
    rw [gkc]; rintro ⟨r, hr, e1, e2, e3⟩; exact (c8 r hr).1 e1)).1
  have E : ∀ R, R ∈ lq_Ps → lq_E6 w R M M' := fun R hR => lq_E6.go hA hR f c9
  refine ⟨hA, hB.go hA gx f c9, p, q, hN.go hA f c9, ?_, fun k hk h0 => ?_⟩
  · rcases y with e | ⟨PL', WA', OA', TO', BI', nm', r'⟩
    · rw [o1 e rfl]
      exact (h1 e rfl).cg (E p hN.pin.1) (fun _ _ => rfl)
    · obtain ⟨ns, ⟨q1, q2, q3, q4, q5, q6, q7⟩, -⟩ := o2 _ _ _ _ _ _ _ rfl
      obtain ⟨v0, v1, v2, v3, v4⟩ := h3 _ _ _ _ _ _ _ rfl
      obtain ⟨⟨⟨e1, e2, e3, e4⟩, e5, e6⟩, e7, e8⟩ := E p hN.pin.1
      have hb : ∀ t v, t < 8 → v < 12 → M'.1 s (0 + (88 + 12 * t + v)) = M'.1 (w (p + 12 + t)) v := fun t v ht hv => by
        rw [Nat.zero_add, e8 t v ht hv, v4 t ht]; exact (q7 t v ht hv).1
      refine ⟨⟨q1.trans ((v1 4 (by decide)).symm.trans e1.symm), q2.trans ((v1 6 (by decide)).symm.trans e2.symm), q3.trans ((v1 7 (by decide)).symm.trans e3.symm), q4.trans ((v1 8 (by decide)).symm.trans e4.symm), fun t v ht hv => ?_, fun v hv => ?_⟩, hb, ?_⟩
      · rw [Nat.zero_add, e5 t v ht hv, v3 t ht]; exact q5 t v ht hv
      · rw [Nat.zero_add, e6 v hv, v2]; exact q6 v hv
      · rw [e7, v1 5 (by decide), v0.2.2.2.2.2.2.2.2]
        unfold rv_ct
        refine lq_ct_cg 96 (fun i hi => ?_)
        have := (q7 (i / 12) (i % 12) (by omega) (by omega)).1
        rw [show 88 + 12 * (i / 12) + i % 12 = 0 + (88 + i) by omega] at this
        exact this.symm
  · rw [ec] at h0; rw [ek]
    exact (h2 k hk h0).cg (E _ (lq_ip_in k)) (fun _ _ => rfl)
end PQ
end
section
/-! ===== what a PLAIN's numbers are within ===== -/
/-- what a PLAIN's numbers are within -/
def rv_r4 (H : Nat → Int) (o : Nat) : Prop := (0 ≤ H o ∧ H o ≤ 8) ∧ (0 ≤ H (o + 1) ∧ H (o + 1) ≤ 99) ∧ (0 ≤ H (o + 2) ∧ H (o + 2) ≤ 999) ∧ (1 ≤ H (o + 3) ∧ H (o + 3) ≤ 12) ∧ (∀ t v, t < 8 → v < 9 → 0 ≤ H (o + (4 + 9 * t + v)) ∧ H (o + (4 + 9 * t + v)) ≤ 999 ∧ ((t : Int) < H o ∨ H (o + (4 + 9 * t + v)) = 0)) ∧ (∀ v, v < 12 → 0 ≤ H (o + (76 + v)) ∧ H (o + (76 + v)) ≤ 999)
theorem rv_r4.cg {H H' : Nat → Int} {o o' : Nat} (h : rv_r4 H o) (e : ∀ k, k < 88 → H' (o' + k) = H (o + k)) : rv_r4 H' o' := by
  obtain ⟨h1, h2, h3, h4, h5, h6⟩ := h
  have e0 : H' o' = H o := e 0 (by decide)
  refine ⟨by rw [e0]; exact h1, by rw [e 1 (by decide)]; exact h2, by rw [e 2 (by decide)]; exact h3, by rw [e 3 (by decide)]; exact h4, fun t v ht hv => ?_, fun v hv => ?_⟩
  · rw [e0, e _ (by omega)]; exact h5 t v ht hv
  · rw [e _ (by omega)]; exact h6 v hv
theorem rv_r4.of {H PL WA : Nat → Int} {TO BI : Nat → Nat → Int} (h : rv_H H PL WA TO BI) (r : rv_ps PL WA TO BI) : rv_r4 H 0 := by
  obtain ⟨q1, q2, q3, q4, q5, q6, -⟩ := h
  obtain ⟨a1, a2, a3, a4, a5, a6, a7, a8, a9⟩ := r
  refine ⟨by rw [q1]; exact a1, by rw [Nat.zero_add, q2]; exact a3, by rw [Nat.zero_add, q3]; exact a4, by rw [Nat.zero_add, q4]; exact a5, fun t v ht hv => ?_, fun v hv => ?_⟩
  · rw [Nat.zero_add, q5 t v ht hv, q1]; exact a6 t v ht hv
  · rw [Nat.zero_add, q6 v hv]; exact a7 v hv
end
section
/-! ===== restore of the reference, undoMany told ===== -/
theorem r_restore6 {d m s kp ik : Nat} {kz : Int} {G : mj_G} {M : mj_M} {Q : mj_P} (hm : G m = (1012, 0)) (hs : G s = (51100, 537)) (hkp : G kp = (70100, 1076)) (hik : G ik = (72102, 2)) (h6 : M.2.2 m 6 = some s) (h59 : M.2.2 m 59 = some kp) (h61 : M.2.2 m 61 = some ik) (hI : ab_Inv G M)
    (hQ0 : (¬ (0 ≤ kz ∧ kz ≤ 1) ∨ ∃ k : Nat, kz = (k : Int) ∧ k ≤ 1 ∧ M.1 ik k = 0) → Q (some (.inl 0)) G (mj_p0 M m 0 0))
    (hQ1 : ∀ (k : Nat) M', kz = (k : Int) → k ≤ 1 → M.1 ik k ≠ 0 → ab_Inv G M' → M'.2.2 = M.2.2 → ab_frm hn_WR G M M' → (∀ p, p < 537 → M'.1 s p = M.1 kp (538 * k + p)) → M'.1 m 28 = 0 → Q (some (.inl 1)) G M') : mj_R mj_tab (d + 2) 235 [.inr (.inr (some m)), .inl kz] G M Q := by
  have i0 : ab_Inv G (mj_p0 M m 0 0) := hI.p0 (by rw [hm]; exact ⟨by decide, by decide⟩)
  have a1 : m ≠ s := hn_ne hm hs (by decide)
  have a2 : m ≠ kp := hn_ne hm hkp (by decide)
  have a3 : m ≠ ik := hn_ne hm hik (by decide)
  obtain ⟨nm, h9, hnm⟩ := hn_rf (k := 9) (q := (54103, 16)) hI hm rfl (by decide) (by decide) (by decide) (fun e => absurd e (by decide))
  obtain ⟨nk, h60, hnk⟩ := hn_rf (k := 60) (q := (71103, 16)) hI hm rfl (by decide) (by decide) (by decide) (fun e => absurd e (by decide))
  have P15 : ∀ (k : Nat) (cb sb : Nat), kz = (k : Int) → k ≤ 1 → M.1 ik k ≠ 0 → mj_W sx_ms (mj_R mj_tab (d + 1)) mt_X12_restore.2.2.2.2.1 Q (mt_X12_restore.2.2.2.2.1.drop 15) [some (.inr (.inr (some m))), some (.inl (k : Int)), none] [] G (mj_p0 M m 0 0) cb sb := by
    intro k cb sb ek hk hik0
    refine mj_W.run (mj_R_mo _ _) 2 ?_
    refine r_restore_1 (d := d) (M0 := mj_p0 M m 0 0) hm hs hkp h6 h59 hk i0 (fun M2 cb sb C2 => ?_) 537 0 _ cb sb rfl ⟨i0, rfl, fun _ _ _ => rfl, fun _ _ => rfl, fun p hp => absurd hp (by omega)⟩
    obtain ⟨c1, c2, c3, c4, c5⟩ := C2
    have r59 : M2.2.2 m 59 = some kp := by rw [c2]; exact h59
    have r9 : M2.2.2 m 9 = some nm := by rw [c2]; exact h9
    have r60 : M2.2.2 m 60 = some nk := by rw [c2]; exact h60
    have fin : ∀ (v : Int), mj_in v → ∀ cb sb : Nat, mj_W sx_ms (mj_R mj_tab (d + 1)) mt_X12_restore.2.2.2.2.1 Q (mt_X12_restore.2.2.2.2.1.drop 46) [some (.inr (.inr (some m))), some (.inl (k : Int)), some (.inl 0)] [] G (mj_p0 M2 m 25 v) cb sb := by
      intro v hv cb sb
      have i3 : ab_Inv G (mj_p0 M2 m 25 v) := c1.p0 (by
        rw [hm]
        exact hn_ii hv)
      refine r_restore_2 (d := d) (M0 := mj_p0 M2 m 25 v) hm hnm hnk r9 r60 hk (fun M4 cb sb e1 e2 e5 => ?_) 8 0 _ cb sb rfl rfl rfl (fun _ _ _ => rfl)
      have i4 : ab_Inv G M4 := hn_L i3 e1 e2 e5
      have end1 : Q (some (.inl 1)) G (mj_p0 M4 m 28 0) := by
        have o1 : ∀ x q, x ≠ s → ¬ (x = m ∧ q = 25) → M4.1 x q = (mj_p0 M m 0 0).1 x q := fun x q hx h25 => by rw [e1]; exact (show (mj_p0 M2 m 25 v).1 x q = M2.1 x q from if_neg h25).trans (c3 x q hx)
        refine hQ1 k _ ek hk hik0 (i4.p0 (by rw [hm]; exact ⟨by decide, by decide⟩)) (by show M4.2.2 = M.2.2; rw [e2]; show M2.2.2 = M.2.2; rw [c2]; rfl) ?_ (fun q hq => ?_) hn_s
        · intro x q hn
          have x1 : ¬ (x = m ∧ q = 0) := fun e => hn ⟨(1012, 0, 0), by decide, by rw [e.1, hm], by rw [e.2]; decide, by rw [e.2]; decide⟩
          have x2 : ¬ (x = m ∧ q = 25) := fun e => hn ⟨(1012, 25, 25), by decide, by rw [e.1, hm], by rw [e.2]; decide, by rw [e.2]; decide⟩
          have x3 : ¬ (x = m ∧ q = 28) := fun e => hn ⟨(1012, 28, 28), by decide, by rw [e.1, hm], by rw [e.2]; decide, by rw [e.2]; decide⟩
          have x4 : ¬ (x = s ∧ q ≤ 536) := fun e => hn ⟨(51100, 0, 536), by decide, by rw [e.1, hs], Nat.zero_le _, e.2⟩
          refine ⟨?_, by show M4.2.2 x q = _; rw [e2]; show M2.2.2 x q = _; rw [c2]; rfl⟩
          have z1 : (mj_p0 M4 m 28 0).1 x q = M4.1 x q := if_neg x3
          have z0 : (mj_p0 M m 0 0).1 x q = M.1 x q := if_neg x1
          rw [z1]
          by_cases ex : x = s
          · subst ex
            rw [e1]
            have hq : 537 ≤ q := by
              by_cases g : q ≤ 536
              · exact absurd ⟨rfl, g⟩ x4
              · omega
            exact (hn_n (Or.inl a1.symm)).trans ((c4 q (by omega)).trans z0)
          · exact (o1 x q ex x2).trans z0
        · refine (hn_n (Or.inl a1.symm)).trans ?_
          rw [e1]
          have c5 := c5 q hq
          rw [Nat.zero_add] at c5
          exact (hn_n (Or.inl a1.symm)).trans (c5.trans (hn_n (Or.inl a2.symm)))
      refine mj_W.run (mj_R_mo _ _) 10 ?_
      refine hn_pi (fk := 28) (List.cons_ne_nil _ _) rfl rfl rfl hm (fun q => by cases q) ?_
      exact ⟨rfl, fun _ => Or.inr rfl, end1⟩
    refine mj_W.run (mj_R_mo _ _) 12 ?_
    refine hn_gr (fk := 59) (List.cons_ne_nil _ _) rfl rfl rfl hm r59 ?_
    refine Or.inl ⟨⟨by show (-2147483648 : Int) ≤ (538 : Int) * (k : Int); omega, by show (538 : Int) * (k : Int) < (2147483648 : Int); omega⟩, ?_⟩
    refine Or.inl ⟨⟨by show (-2147483648 : Int) ≤ (538 : Int) * (k : Int) + 537; omega, by show (538 : Int) * (k : Int) + 537 < (2147483648 : Int); omega⟩, ?_⟩
    refine ⟨70100, 1076, hkp, rfl, by show (0 : Int) ≤ (538 : Int) * (k : Int) + 537; omega, by show (538 : Int) * (k : Int) + 537 < ((1076 : Nat) : Int); omega, ?_⟩
    refine hn_pi (fk := 25) (List.cons_ne_nil _ _) rfl rfl rfl hm (fun q => by cases q) ?_
    exact fin _ (c1.mj kp _) _ _
  refine ⟨Nat.le_of_ble_eq_true rfl, mj_W.run (mj_R_mo _ _) 20 ?_⟩
  refine hn_pi (fk := 0) (List.cons_ne_nil _ _) rfl rfl rfl hm (fun q => by cases q) ?_
  refine ⟨List.cons_ne_nil _ _, Nat.le_of_ble_eq_true rfl, Nat.zero_le _, Nat.zero_le _, ?_⟩
  refine r_isIn (fun g1 g2 => ?_) (fun g => ?_)
  · refine ⟨fun c1 => absurd (show (1 : Int) = 0 from c1) (by decide), fun _ => ?_⟩
    obtain ⟨k, rfl⟩ : ∃ k : Nat, kz = (k : Int) := ⟨kz.toNat, by omega⟩
    refine hn_gr (fk := 61) (List.cons_ne_nil _ _) rfl rfl rfl hm h61 ?_
    refine Or.inr ⟨72102, 2, hik, rfl, by show (0 : Int) ≤ (k : Int); omega, by show (k : Int) < ((2 : Nat) : Int); omega, ?_⟩
    have e : (mj_p0 M m 0 0).1 ik ((k : Int)).toNat = M.1 ik k := hn_n (Or.inl a3.symm)
    refine ⟨fun c2 => mj_W.stay (mj_R_mo _ _) _ (P15 k _ _ rfl (by omega) (by
      have c2 : (mj_p0 M m 0 0).1 ik ((k : Int)).toNat ≠ 0 := c2
      rw [e] at c2
      exact c2)), fun c2 => ⟨rfl, fun _ => Or.inl rfl, hQ0 (Or.inr ⟨k, rfl, by omega, ?_⟩)⟩⟩
    have c2 : ¬ (mj_p0 M m 0 0).1 ik ((k : Int)).toNat ≠ 0 := c2
    rw [e] at c2
    omega
  · exact ⟨fun _ => ⟨rfl, fun _ => Or.inl rfl, hQ0 (Or.inl g)⟩, fun c1 => absurd (show (0 : Int) = 0 from rfl) c1⟩
theorem lc_X12_restore6 {d x m tp s kp ik : Nat} {z1 : Int} {G : mj_G} {M : mj_M} {Q : mj_P} (hV : lw_V G M x m tp s kp) (hik : G ik = (72102, 2)) (h61 : M.2.2 m 61 = some ik) (hQ : ∀ z M', lw_V G M' x m tp s kp → (M'.1 tp 1 = M.1 tp 1 ∧ M'.1 m 2 = M.1 m 2) → ab_frm hn_WR G M M' → (((¬ (0 ≤ z1 ∧ z1 ≤ 1) ∨ M.1 ik z1.toNat = 0) ∧ z = 0 ∧ M'.1 s = M.1 s ∧ M'.1 m 28 = M.1 m 28) ∨ (∃ k : Nat, k ≤ 1 ∧ z1 = (k : Int) ∧ M.1 ik k ≠ 0 ∧ z = 1 ∧ (∀ p, p < 537 → M'.1 s p = M.1 kp (538 * k + p)) ∧ M'.1 m 28 = 0)) → Q (some (.inl z)) G M') : mj_R mj_tab (d + 31) 235 [.inr (.inr (some m)), .inl z1] G M Q := by
  obtain ⟨hI, ⟨g1, g2, g3, g4, g5⟩, ⟨r1, r2, r3⟩, f1, f2, f3⟩ := id hV
  refine r_restore6 (d := d + 29) g2 g4 g5 hik r2 r3 h61 hI (fun c0 => ?_) (fun k M' ek hk k0 i e22 f h1 u0 => ?_)
  · have f0 : ab_frm [(1012, 0, 0)] G M (mj_p0 M m 0 0) := hn_f0 ab_frm.rf ⟨(1012, 0, 0), by decide, by rw [g2], by decide, by decide⟩
    exact hQ 0 _ (hV.fr (hI.p0 (by rw [g2]; exact ⟨by decide, by decide⟩)) f0 (by decide)) (hV.sz f0 (by decide)) (hn_up f0 (by decide)) (Or.inl ⟨c0.imp id (fun ⟨k, e1, e2, e3⟩ => by rw [e1]; exact e3), rfl, wz_c (hn_ne g4 g2 (by decide)), hn_n (Or.inr (by decide))⟩)
  · have hF : hn_F M' s 356 := by
      by_cases e : k = 0
      · subst e
        exact f2.mv (lw_45k (k := 0) hI g5 (by decide)) (fun j hj => by have := h1 (356 + j) (by omega); rw [Nat.mul_zero, Nat.zero_add] at this; exact this)
      · have e1 : k = 1 := by omega
        subst e1
        exact f3.mv (lw_45k (k := 1) hI g5 (by decide)) (fun j hj => by have := h1 (356 + j) (by omega); rw [show 538 * 1 + (356 + j) = 894 + j by omega] at this; exact this)
    exact hQ 1 M' (hV.fs i f (by decide) hF).1 (hV.sz f (by decide)) f (Or.inr ⟨k, hk, ek, k0, rfl, h1, u0⟩)
end
