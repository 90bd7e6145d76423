/-! ===== what a PLAIN that is read well keeps: ranges, the count of bids ===== -/
def lq_ct (f : Nat → Int) : Nat → Int
  | 0 => 0
  | n + 1 => lq_ct f n + (if 0 < f n then 1 else 0)
theorem lq_ct_cg {f g : Nat → Int} : ∀ n, (∀ i, i < n → f i = g i) → lq_ct f n = lq_ct g n
  | 0, _ => rfl
  | n + 1, h => by
    show lq_ct f n + (if 0 < f n then 1 else 0) = lq_ct g n + (if 0 < g n then 1 else 0)
    rw [lq_ct_cg n (fun i hi => h i (by omega)), h n (by omega)]
theorem lq_ct_up {f g : Nat → Int} {j : Nat} (h : ∀ i, i ≠ j → g i = f i) : ∀ n, j < n → lq_ct g n = lq_ct f n - (if 0 < f j then 1 else 0) + (if 0 < g j then 1 else 0)
  | 0, hj => absurd hj (Nat.not_lt_zero _)
  | n + 1, hj => by
    show lq_ct g n + (if 0 < g n then 1 else 0) = lq_ct f n + (if 0 < f n then 1 else 0) - (if 0 < f j then 1 else 0) + (if 0 < g j then 1 else 0)
    by_cases e : j = n
    · subst e
      rw [lq_ct_cg (f := g) (g := f) j (fun i hi => h i (by omega))]
      omega
    · rw [lq_ct_up h n (by omega), h n (fun q => e q.symm)]
      omega
theorem lq_ct_b (f : Nat → Int) : ∀ n, 0 ≤ lq_ct f n ∧ lq_ct f n ≤ (n : Int)
  | 0 => ⟨Int.le_refl 0, Int.le_refl 0⟩
  | n + 1 => by
    have h := lq_ct_b f n
    show 0 ≤ lq_ct f n + (if 0 < f n then 1 else 0) ∧ lq_ct f n + (if 0 < f n then 1 else 0) ≤ ((n + 1 : Nat) : Int)
    split <;> omega
def rv_ct (BI : Nat → Nat → Int) : Int := lq_ct (fun i => BI (i / 12) (i % 12)) 96
theorem rv_up2_x {f : Nat → Nat → Int} {t j a k : Nat} {v : Int} (h : ¬ (a = t ∧ k = j)) : rv_up2 f t j v a k = f a k := by
  by_cases e : a = t
  · subst e; exact rv_up2_n (fun q => h ⟨rfl, q⟩)
  · unfold rv_up2; rw [if_neg e]
theorem rv_ct_up {BI : Nat → Nat → Int} {r m : Nat} {v : Int} (hr : r < 8) (hm : m < 12) (h0 : BI r m = 0) (hv : 0 < v) : rv_ct (rv_up2 BI r m v) = rv_ct BI + 1 := by
  unfold rv_ct
  have e1 : (12 * r + m) / 12 = r := by omega
  have e2 : (12 * r + m) % 12 = m := by omega
  have k := lq_ct_up (f := fun i => BI (i / 12) (i % 12)) (g := fun i => rv_up2 BI r m v (i / 12) (i % 12)) (j := 12 * r + m) (fun i hi => by
    show rv_up2 BI r m v (i / 12) (i % 12) = BI (i / 12) (i % 12)
    exact rv_up2_x (by omega)) 96 (by omega)
  rw [k, e1, e2, h0]
  have : rv_up2 BI r m v r m = v := rv_up2_s
  rw [this, if_pos hv]
  simp
/-- what every PLAIN keeps -/
def rv_ps (PL WA : Nat → Int) (TO BI : Nat → Nat → Int) : Prop := (0 ≤ PL 4 ∧ PL 4 ≤ 8) ∧ (0 ≤ PL 5 ∧ PL 5 ≤ 40) ∧ (0 ≤ PL 6 ∧ PL 6 ≤ 99) ∧ (0 ≤ PL 7 ∧ PL 7 ≤ 999) ∧ (1 ≤ PL 8 ∧ PL 8 ≤ 12) ∧ (∀ t v, t < 8 → v < 9 → 0 ≤ TO t v ∧ TO t v ≤ 999 ∧ ((t : Int) < PL 4 ∨ TO t v = 0)) ∧ (∀ v, v < 12 → 0 ≤ WA v ∧ WA v ≤ 999) ∧ (∀ t v, t < 8 → v < 12 → 0 ≤ BI t v ∧ BI t v ≤ 999 ∧ ((t : Int) < PL 4 ∨ BI t v = 0)) ∧ PL 5 = rv_ct BI
def rv_rg (y : rv_Om) : Prop := ∀ PL WA OA TO BI nm r, y = .inr (PL, WA, OA, TO, BI, nm, r) → rv_ps PL WA TO BI
def rv_Dr (S : (rv_Om → Prop) → Prop) : Prop := ∃ y, rv_rg y ∧ ∀ P : rv_Om → Prop, P y → S P
theorem dr_l (e : Int × Nat) : rv_rg (.inl e) := fun _ _ _ _ _ _ _ q => by cases q
theorem dr_f (f : Int) (a : Nat) : rv_Dr (fun P => P (.inl (f, a))) := ⟨_, dr_l _, fun _ h => h⟩
theorem dr_if {c : Prop} {A B : (rv_Om → Prop) → Prop} (hA : c → rv_Dr A) (hB : ¬ c → rv_Dr B) : rv_Dr (fun P => (c → A P) ∧ (¬ c → B P)) := by
  by_cases h : c
  · obtain ⟨y, hr, hy⟩ := hA h
    exact ⟨y, hr, fun P p => ⟨fun _ => hy P p, fun n => absurd h n⟩⟩
  · obtain ⟨y, hr, hy⟩ := hB h
    exact ⟨y, hr, fun P p => ⟨fun n => absurd n h, fun _ => hy P p⟩⟩
section DR
variable {T : Nat → Nat × Nat × Int × List Int × Nat} {p : Nat} {A : (rv_Om → Prop) → Prop}
theorem dr_num {lo hi : Int} (hA : lo ≤ (T p).2.2.1 → (T p).2.2.1 ≤ hi → rv_Dr A) : rv_Dr (fun P => sp_num T lo hi p (fun f a => P (.inl (f, a))) (A P)) := by
  by_cases c1 : (T p).1 = 2
  · by_cases c2 : lo ≤ (T p).2.2.1
    · by_cases c3 : (T p).2.2.1 ≤ hi
      · obtain ⟨y, hr, hy⟩ := hA c2 c3
        exact ⟨y, hr, fun P k => ⟨fun _ => ⟨fun _ => ⟨fun _ => hy P k, fun n => absurd c3 n⟩, fun n => absurd c2 n⟩, fun n => absurd c1 n⟩⟩
      · exact ⟨.inl (2, (T p).2.1), dr_l _, fun P k => ⟨fun _ => ⟨fun _ => ⟨fun n => absurd n c3, fun _ => k⟩, fun n => absurd c2 n⟩, fun n => absurd c1 n⟩⟩
    · exact ⟨.inl (2, (T p).2.1), dr_l _, fun P k => ⟨fun _ => ⟨fun n => absurd n c2, fun _ => k⟩, fun n => absurd c1 n⟩⟩
  · exact ⟨.inl (1, (T p).2.1), dr_l _, fun P k => ⟨fun n => absurd n c1, fun _ => k⟩⟩
theorem dr_sgn {c : Int} (hA : rv_Dr A) : rv_Dr (fun P => sp_sgn T c p (fun f a => P (.inl (f, a))) (A P)) := by
  obtain ⟨y, hr, hy⟩ := hA
  by_cases c1 : (T p).1 = 3
  · by_cases c2 : (T p).2.2.1 = c
    · exact ⟨y, hr, fun P k => ⟨fun _ => ⟨fun _ => hy P k, fun n => absurd c2 n⟩, fun n => absurd c1 n⟩⟩
    · exact ⟨.inl (1, (T p).2.1), dr_l _, fun P k => ⟨fun _ => ⟨fun n => absurd n c2, fun _ => k⟩, fun n => absurd c1 n⟩⟩
  · exact ⟨.inl (1, (T p).2.1), dr_l _, fun P k => ⟨fun n => absurd n c1, fun _ => k⟩⟩
theorem dr_nam (hA : rv_Dr A) : rv_Dr (fun P => sp_nam T p (fun f a => P (.inl (f, a))) (A P)) := by
  obtain ⟨y, hr, hy⟩ := hA
  by_cases c1 : (T p).1 = 1
  · by_cases c2 : rv_nam (T p).2.2.2.1
    · exact ⟨y, hr, fun P k => ⟨fun _ => ⟨fun _ => hy P k, fun n => absurd c2 n⟩, fun n => absurd c1 n⟩⟩
    · exact ⟨.inl (1, (T p).2.1), dr_l _, fun P k => ⟨fun _ => ⟨fun n => absurd n c2, fun _ => k⟩, fun n => absurd c1 n⟩⟩
  · exact ⟨.inl (1, (T p).2.1), dr_l _, fun P k => ⟨fun n => absurd n c1, fun _ => k⟩⟩
theorem dr_find {nm : Nat → List Int} {k : Int} {w : List Int} {K : Int → (rv_Om → Prop) → Prop} (hK : ∀ r : Int, (r = -1 ∨ (0 ≤ r ∧ r < k)) → rv_Dr (K r)) : rv_Dr (fun P => sp_find nm k w (fun r => K r P)) := by
  by_cases h : ∃ r : Nat, (r : Int) < k ∧ nm r = w ∧ ∀ j, j < r → nm j ≠ w
  · obtain ⟨r, h1, h2, h3⟩ := h
    obtain ⟨y, hr, hy⟩ := hK (r : Int) (Or.inr ⟨by omega, h1⟩)
    refine ⟨y, hr, fun P p => ⟨fun r' g1 g2 g3 => ?_, fun g => absurd h2 (g r h1)⟩⟩
    have e : r' = r := by
      rcases Nat.lt_trichotomy r' r with q | q | q
      · exact absurd g2 (h3 r' q)
      · exact q
      · exact absurd h2 (g3 r q)
    rw [e]; exact hy P p
  · obtain ⟨y, hr, hy⟩ := hK (-1) (Or.inl rfl)
    exact ⟨y, hr, fun P p => ⟨fun r' g1 g2 g3 => absurd ⟨r', g1, g2, g3⟩ h, fun _ => hy P p⟩⟩
end DR
/-! what rows do to it -/
section PS
variable {PL WA : Nat → Int} {TO BI : Nat → Nat → Int} {v v1 v2 v3 v4 : Int} {r j : Nat}
theorem rv_ps.pl (h : rv_ps PL WA TO BI) {PL' : Nat → Int} (e4 : PL' 4 = PL 4) (e5 : PL' 5 = PL 5) (e6 : 0 ≤ PL' 6 ∧ PL' 6 ≤ 99) (e7 : 0 ≤ PL' 7 ∧ PL' 7 ≤ 999) (e8 : 1 ≤ PL' 8 ∧ PL' 8 ≤ 12) : rv_ps PL' WA TO BI := by
  obtain ⟨a1, a2, a3, a4, a5, a6, a7, a8, a9⟩ := h
  refine ⟨by rw [e4]; exact a1, by rw [e5]; exact a2, e6, e7, e8, ?_, a7, ?_, e5.trans a9⟩
  · rw [e4]; exact a6
  · rw [e4]; exact a8
theorem rv_ps.wa (h : rv_ps PL WA TO BI) (hv : 0 ≤ v ∧ v ≤ 999) : rv_ps PL (rv_up WA j v) TO BI := by
  obtain ⟨a1, a2, a3, a4, a5, a6, a7, a8, a9⟩ := h
  refine ⟨a1, a2, a3, a4, a5, a6, fun k hk => ?_, a8, a9⟩
  by_cases e : k = j
  · subst e; rw [rv_up_s]; exact hv
  · rw [rv_up_n e]; exact a7 k hk
theorem rv_ps.to (h : rv_ps PL WA TO BI) (hr : (r : Int) < PL 4) (hv : 0 ≤ v ∧ v ≤ 999) : rv_ps PL WA (rv_up2 TO r j v) BI := by
  obtain ⟨a1, a2, a3, a4, a5, a6, a7, a8, a9⟩ := h
  refine ⟨a1, a2, a3, a4, a5, fun t k ht hk => ?_, a7, a8, a9⟩
  by_cases e : t = r ∧ k = j
  · obtain ⟨rfl, rfl⟩ := e; rw [rv_up2_s]; exact ⟨hv.1, hv.2, Or.inl hr⟩
  · rw [rv_up2_x e]; exact a6 t k ht hk
theorem rv_ps.bi (h : rv_ps PL WA TO BI) (hr : (r : Int) < PL 4) (hj : j < 12) (h0 : BI r j = 0) (h40 : ¬ 40 ≤ PL 5) (hv : 1 ≤ v ∧ v ≤ 999) : rv_ps (rv_up PL 5 (PL 5 + 1)) WA TO (rv_up2 BI r j v) := by
  obtain ⟨a1, a2, a3, a4, a5, a6, a7, a8, a9⟩ := h
  have n4 : rv_up PL 5 (PL 5 + 1) 4 = PL 4 := rv_up_n (by decide)
  refine ⟨by rw [n4]; exact a1, by rw [rv_up_s]; omega, by rw [rv_up_n (by decide)]; exact a3, by rw [rv_up_n (by decide)]; exact a4, by rw [rv_up_n (by decide)]; exact a5, by rw [n4]; exact a6, a7, fun t k ht hk => ?_, ?_⟩
  · rw [n4]
    by_cases e : t = r ∧ k = j
    · obtain ⟨rfl, rfl⟩ := e; rw [rv_up2_s]; exact ⟨by omega, hv.2, Or.inl hr⟩
    · rw [rv_up2_x e]; exact a8 t k ht hk
  · rw [rv_up_s, rv_ct_up (by omega) hj h0 (by omega), a9]
theorem rv_ps.town (h : rv_ps PL WA TO BI) (h8 : ¬ 8 ≤ PL 4) (b1 : 0 ≤ v1 ∧ v1 ≤ 99) (b2 : 0 ≤ v2 ∧ v2 ≤ 999) (b3 : 0 ≤ v3 ∧ v3 ≤ 99) (b4 : 0 ≤ v4 ∧ v4 ≤ 999) : rv_ps (rv_up PL 4 (PL 4 + 1)) WA (rv_up2 (rv_up2 (rv_up2 (rv_up2 TO (PL 4).toNat 0 v1) (PL 4).toNat 1 v2) (PL 4).toNat 2 v3) (PL 4).toNat 3 v4) BI := by
  obtain ⟨a1, a2, a3, a4, a5, a6, a7, a8, a9⟩ := h
  have h0 : rv_ps (rv_up PL 4 (PL 4 + 1)) WA TO BI := by
    refine ⟨by rw [rv_up_s]; omega, by rw [rv_up_n (by decide)]; exact a2, by rw [rv_up_n (by decide)]; exact a3, by rw [rv_up_n (by decide)]; exact a4, by rw [rv_up_n (by decide)]; exact a5, fun t k ht hk => ?_, a7, fun t k ht hk => ?_, by rw [rv_up_n (by decide)]; exact a9⟩
    · have := a6 t k ht hk; rw [rv_up_s]; exact ⟨this.1, this.2.1, this.2.2.imp (fun h => by omega) id⟩
    · have := a8 t k ht hk; rw [rv_up_s]; exact ⟨this.1, this.2.1, this.2.2.imp (fun h => by omega) id⟩
  have hr : (((PL 4).toNat : Nat) : Int) < rv_up PL 4 (PL 4 + 1) 4 := by rw [rv_up_s]; omega
  exact (((h0.to hr (v := v1) (j := 0) (by omega)).to hr (v := v2) (j := 1) (by omega)).to hr (v := v3) (j := 2) (by omega)).to hr (v := v4) (j := 3) (by omega)
end PS
section DS
variable {T : Nat → Nat × Nat × Int × List Int × Nat}
variable {PL WA OA : Nat → Int} {TO BI : Nat → Nat → Int} {nm : Nat → List Int} {q : Nat} {K : (Nat → Int) → (Nat → Int) → (Nat → Int) → (Nat → Nat → Int) → (Nat → Nat → Int) → (Nat → List Int) → Nat → (rv_Om → Prop) → Prop}
theorem dr_town (h : rv_ps PL WA TO BI) (hK : ∀ PL WA OA TO BI nm q', rv_ps PL WA TO BI → rv_Dr (K PL WA OA TO BI nm q')) : rv_Dr (fun P => sp_town T PL WA OA TO BI nm q (fun f a => P (.inl (f, a))) (fun PL WA OA TO BI nm q' => K PL WA OA TO BI nm q' P)) := by
  unfold sp_town
  exact dr_if (fun _ => dr_f _ _) (fun c => dr_nam (dr_find (fun r _ => dr_if (fun _ => dr_num (fun a1 b1 => dr_num (fun a2 b2 => dr_num (fun a3 b3 => dr_num (fun a4 b4 => hK _ _ _ _ _ _ _ (h.town c ⟨a1, b1⟩ ⟨a2, b2⟩ ⟨a3, b3⟩ ⟨a4, b4⟩)))))) (fun _ => dr_f _ _))))
theorem dr_water (h : rv_ps PL WA TO BI) (hK : ∀ PL WA OA TO BI nm q', rv_ps PL WA TO BI → rv_Dr (K PL WA OA TO BI nm q')) : rv_Dr (fun P => sp_water T PL WA OA TO BI nm q (fun f a => P (.inl (f, a))) (fun PL WA OA TO BI nm q' => K PL WA OA TO BI nm q' P)) := by
  unfold sp_water
  exact dr_num (fun _ _ => dr_if (fun _ => dr_num (fun a b => hK _ _ _ _ _ _ _ ((h.wa ⟨a, b⟩).pl (rv_up_n (by decide)) (rv_up_n (by decide)) (by rw [rv_up_n (by decide)]; exact h.2.2.1) (by rw [rv_up_n (by decide)]; exact h.2.2.2.1) (by rw [rv_up_n (by decide)]; exact h.2.2.2.2.1)))) (fun _ => dr_f _ _))
theorem dr_bid (h : rv_ps PL WA TO BI) (hK : ∀ PL WA OA TO BI nm q', rv_ps PL WA TO BI → rv_Dr (K PL WA OA TO BI nm q')) : rv_Dr (fun P => sp_bid T PL WA OA TO BI nm q (fun f a => P (.inl (f, a))) (fun PL WA OA TO BI nm q' => K PL WA OA TO BI nm q' P)) := by
  unfold sp_bid
  exact dr_if (fun _ => dr_f _ _) (fun c => dr_nam (dr_find (fun r hr => dr_if (fun _ => dr_f _ _) (fun n1 => dr_num (fun a b => dr_if (fun c0 => dr_num (fun a2 b2 => hK _ _ _ _ _ _ _ (h.bi (by omega) (by omega) c0 c ⟨a2, b2⟩))) (fun _ => dr_f _ _))))))
theorem dr_need (h : rv_ps PL WA TO BI) (hK : ∀ PL WA OA TO BI nm q', rv_ps PL WA TO BI → rv_Dr (K PL WA OA TO BI nm q')) : rv_Dr (fun P => sp_need T PL WA OA TO BI nm q (fun f a => P (.inl (f, a))) (fun PL WA OA TO BI nm q' => K PL WA OA TO BI nm q' P)) := by
  unfold sp_need
  exact dr_nam (dr_find (fun r hr => dr_if (fun _ => dr_f _ _) (fun n1 => dr_if (fun _ => dr_num (fun a b => hK _ _ _ _ _ _ _ (h.to (by omega) ⟨a, b⟩))) (fun _ => dr_f _ _))))
theorem dr_mill (h : rv_ps PL WA TO BI) (hK : ∀ PL WA OA TO BI nm q', rv_ps PL WA TO BI → rv_Dr (K PL WA OA TO BI nm q')) : rv_Dr (fun P => sp_mill T PL WA OA TO BI nm q (fun f a => P (.inl (f, a))) (fun PL WA OA TO BI nm q' => K PL WA OA TO BI nm q' P)) := by
  unfold sp_mill
  exact dr_nam (dr_find (fun r hr => dr_if (fun _ => dr_f _ _) (fun n1 => dr_if (fun _ => dr_num (fun a b => hK _ _ _ _ _ _ _ (h.to (by omega) ⟨a, by omega⟩))) (fun _ => dr_f _ _))))
theorem dr_bridge (h : rv_ps PL WA TO BI) (hK : ∀ PL WA OA TO BI nm q', rv_ps PL WA TO BI → rv_Dr (K PL WA OA TO BI nm q')) : rv_Dr (fun P => sp_bridge T PL WA OA TO BI nm q (fun f a => P (.inl (f, a))) (fun PL WA OA TO BI nm q' => K PL WA OA TO BI nm q' P)) := by
  unfold sp_bridge
  exact dr_nam (dr_find (fun r hr => dr_if (fun _ => dr_f _ _) (fun n1 => dr_if (fun _ => dr_num (fun a b => hK _ _ _ _ _ _ _ (h.to (by omega) ⟨a, by omega⟩))) (fun _ => dr_f _ _))))
theorem dr_field (h : rv_ps PL WA TO BI) (hK : ∀ PL WA OA TO BI nm q', rv_ps PL WA TO BI → rv_Dr (K PL WA OA TO BI nm q')) : rv_Dr (fun P => sp_field T PL WA OA TO BI nm q (fun f a => P (.inl (f, a))) (fun PL WA OA TO BI nm q' => K PL WA OA TO BI nm q' P)) := by
  unfold sp_field
  exact dr_nam (dr_find (fun r hr => dr_if (fun _ => dr_f _ _) (fun n1 => dr_if (fun _ => dr_num (fun a b => dr_num (fun a2 b2 => hK _ _ _ _ _ _ _ ((h.to (by omega) ⟨a2, by omega⟩).to (by omega) ⟨a, by omega⟩)))) (fun _ => dr_f _ _))))
theorem dr_move (h : rv_ps PL WA TO BI) (hK : ∀ PL WA OA TO BI nm q', rv_ps PL WA TO BI → rv_Dr (K PL WA OA TO BI nm q')) : rv_Dr (fun P => sp_move T PL WA OA TO BI nm q (fun f a => P (.inl (f, a))) (fun PL WA OA TO BI nm q' => K PL WA OA TO BI nm q' P)) := by
  unfold sp_move
  exact dr_if (fun _ => dr_num (fun a b => hK _ _ _ _ _ _ _ (h.pl ((rv_up_n (by decide)).trans (rv_up_n (by decide))) ((rv_up_n (by decide)).trans (rv_up_n (by decide))) (by rw [rv_up_s]; exact ⟨a, b⟩) (by rw [rv_up_n (by decide), rv_up_n (by decide)]; exact h.2.2.2.1) (by rw [rv_up_n (by decide), rv_up_n (by decide)]; exact h.2.2.2.2.1)))) (fun _ => dr_f _ _)
theorem dr_fish (h : rv_ps PL WA TO BI) (hK : ∀ PL WA OA TO BI nm q', rv_ps PL WA TO BI → rv_Dr (K PL WA OA TO BI nm q')) : rv_Dr (fun P => sp_fish T PL WA OA TO BI nm q (fun f a => P (.inl (f, a))) (fun PL WA OA TO BI nm q' => K PL WA OA TO BI nm q' P)) := by
  unfold sp_fish
  exact dr_if (fun _ => dr_num (fun a b => hK _ _ _ _ _ _ _ (h.pl ((rv_up_n (by decide)).trans (rv_up_n (by decide))) ((rv_up_n (by decide)).trans (rv_up_n (by decide))) (by rw [rv_up_n (by decide), rv_up_n (by decide)]; exact h.2.2.1) (by rw [rv_up_s]; exact ⟨a, b⟩) (by rw [rv_up_n (by decide), rv_up_n (by decide)]; exact h.2.2.2.2.1)))) (fun _ => dr_f _ _)
theorem dr_patience (h : rv_ps PL WA TO BI) (hK : ∀ PL WA OA TO BI nm q', rv_ps PL WA TO BI → rv_Dr (K PL WA OA TO BI nm q')) : rv_Dr (fun P => sp_patience T PL WA OA TO BI nm q (fun f a => P (.inl (f, a))) (fun PL WA OA TO BI nm q' => K PL WA OA TO BI nm q' P)) := by
  unfold sp_patience
  exact dr_if (fun _ => dr_num (fun a b => hK _ _ _ _ _ _ _ (h.pl ((rv_up_n (by decide)).trans (rv_up_n (by decide))) ((rv_up_n (by decide)).trans (rv_up_n (by decide))) (by rw [rv_up_n (by decide), rv_up_n (by decide)]; exact h.2.2.1) (by rw [rv_up_n (by decide), rv_up_n (by decide)]; exact h.2.2.2.1) (by rw [rv_up_s]; exact ⟨a, b⟩)))) (fun _ => dr_f _ _)
theorem dr_row (h : rv_ps PL WA TO BI) (hK : ∀ PL WA OA TO BI nm q', rv_ps PL WA TO BI → rv_Dr (K PL WA OA TO BI nm q')) : rv_Dr (fun P => sp_row T PL WA OA TO BI nm q (fun f a => P (.inl (f, a))) (fun PL WA OA TO BI nm q' => K PL WA OA TO BI nm q' P)) := by
  by_cases c : (T q).1 = 1 ∧ ¬ rv_nam (T q).2.2.2.1
  · have : ∃ j, j < 24 ∧ rv_rs.getD j [] = (T q).2.2.2.1 := Classical.byContradiction (fun g => c.2 (fun j hj e => g ⟨j, hj, e⟩))
    obtain ⟨j, j1, hj⟩ := this
    have key : rv_Dr (fun P => (j = 0 → sp_town T PL WA OA TO BI nm q (fun f a => P (.inl (f, a))) (fun PL WA OA TO BI nm q' => K PL WA OA TO BI nm q' P)) ∧ (j = 1 → sp_water T PL WA OA TO BI nm q (fun f a => P (.inl (f, a))) (fun PL WA OA TO BI nm q' => K PL WA OA TO BI nm q' P)) ∧ (j = 2 → sp_bid T PL WA OA TO BI nm q (fun f a => P (.inl (f, a))) (fun PL WA OA TO BI nm q' => K PL WA OA TO BI nm q' P)) ∧ (j = 3 → sp_need T PL WA OA TO BI nm q (fun f a => P (.inl (f, a))) (fun PL WA OA TO BI nm q' => K PL WA OA TO BI nm q' P)) ∧ (j = 4 → sp_mill T PL WA OA TO BI nm q (fun f a => P (.inl (f, a))) (fun PL WA OA TO BI nm q' => K PL WA OA TO BI nm q' P)) ∧ (j = 5 → sp_bridge T PL WA OA TO BI nm q (fun f a => P (.inl (f, a))) (fun PL WA OA TO BI nm q' => K PL WA OA TO BI nm q' P)) ∧ (j = 6 → sp_field T PL WA OA TO BI nm q (fun f a => P (.inl (f, a))) (fun PL WA OA TO BI nm q' => K PL WA OA TO BI nm q' P)) ∧ (j = 7 → sp_move T PL WA OA TO BI nm q (fun f a => P (.inl (f, a))) (fun PL WA OA TO BI nm q' => K PL WA OA TO BI nm q' P)) ∧ (j = 8 → sp_fish T PL WA OA TO BI nm q (fun f a => P (.inl (f, a))) (fun PL WA OA TO BI nm q' => K PL WA OA TO BI nm q' P)) ∧ (j = 9 → sp_patience T PL WA OA TO BI nm q (fun f a => P (.inl (f, a))) (fun PL WA OA TO BI nm q' => K PL WA OA TO BI nm q' P)) ∧ (10 ≤ j → P (.inl (1, (T q).2.1)))) := by
      rcases Nat.lt_or_ge j 10 with q1 | q1
      · have hjj : j = 0 ∨ j = 1 ∨ j = 2 ∨ j = 3 ∨ j = 4 ∨ j = 5 ∨ j = 6 ∨ j = 7 ∨ j = 8 ∨ j = 9 := by omega
        rcases hjj with rfl | rfl | rfl | rfl | rfl | rfl | rfl | rfl | rfl | rfl
        · obtain ⟨y, hr, hy⟩ := dr_town (T := T) (PL := PL) (WA := WA) (OA := OA) (TO := TO) (BI := BI) (nm := nm) (q := q) h hK
          exact ⟨y, hr, fun P p => ⟨fun _ => hy P p, fun e => absurd e (by decide), fun e => absurd e (by decide), fun e => absurd e (by decide), fun e => absurd e (by decide), fun e => absurd e (by decide), fun e => absurd e (by decide), fun e => absurd e (by decide), fun e => absurd e (by decide), fun e => absurd e (by decide), fun e => absurd e (by decide)⟩⟩
        · obtain ⟨y, hr, hy⟩ := dr_water (T := T) (PL := PL) (WA := WA) (OA := OA) (TO := TO) (BI := BI) (nm := nm) (q := q) h hK
          exact ⟨y, hr, fun P p => ⟨fun e => absurd e (by decide), fun _ => hy P p, fun e => absurd e (by decide), fun e => absurd e (by decide), fun e => absurd e (by decide), fun e => absurd e (by decide), fun e => absurd e (by decide), fun e => absurd e (by decide), fun e => absurd e (by decide), fun e => absurd e (by decide), fun e => absurd e (by decide)⟩⟩
        · obtain ⟨y, hr, hy⟩ := dr_bid (T := T) (PL := PL) (WA := WA) (OA := OA) (TO := TO) (BI := BI) (nm := nm) (q := q) h hK
          exact ⟨y, hr, fun P p => ⟨fun e => absurd e (by decide), fun e => absurd e (by decide), fun _ => hy P p, fun e => absurd e (by decide), fun e => absurd e (by decide), fun e => absurd e (by decide), fun e => absurd e (by decide), fun e => absurd e (by decide), fun e => absurd e (by decide), fun e => absurd e (by decide), fun e => absurd e (by decide)⟩⟩
        · obtain ⟨y, hr, hy⟩ := dr_need (T := T) (PL := PL) (WA := WA) (OA := OA) (TO := TO) (BI := BI) (nm := nm) (q := q) h hK
          exact ⟨y, hr, fun P p => ⟨fun e => absurd e (by decide), fun e => absurd e (by decide), fun e => absurd e (by decide), fun _ => hy P p, fun e => absurd e (by decide), fun e => absurd e (by decide), fun e => absurd e (by decide), fun e => absurd e (by decide), fun e => absurd e (by decide), fun e => absurd e (by decide), fun e => absurd e (by decide)⟩⟩
        · obtain ⟨y, hr, hy⟩ := dr_mill (T := T) (PL := PL) (WA := WA) (OA := OA) (TO := TO) (BI := BI) (nm := nm) (q := q) h hK
          exact ⟨y, hr, fun P p => ⟨fun e => absurd e (by decide), fun e => absurd e (by decide), fun e => absurd e (by decide), fun e => absurd e (by decide), fun _ => hy P p, fun e => absurd e (by decide), fun e => absurd e (by decide), fun e => absurd e (by decide), fun e => absurd e (by decide), fun e => absurd e (by decide), fun e => absurd e (by decide)⟩⟩
        · obtain ⟨y, hr, hy⟩ := dr_bridge (T := T) (PL := PL) (WA := WA) (OA := OA) (TO := TO) (BI := BI) (nm := nm) (q := q) h hK
          exact ⟨y, hr, fun P p => ⟨fun e => absurd e (by decide), fun e => absurd e (by decide), fun e => absurd e (by decide), fun e => absurd e (by decide), fun e => absurd e (by decide), fun _ => hy P p, fun e => absurd e (by decide), fun e => absurd e (by decide), fun e => absurd e (by decide), fun e => absurd e (by decide), fun e => absurd e (by decide)⟩⟩
        · obtain ⟨y, hr, hy⟩ := dr_field (T := T) (PL := PL) (WA := WA) (OA := OA) (TO := TO) (BI := BI) (nm := nm) (q := q) h hK
          exact ⟨y, hr, fun P p => ⟨fun e => absurd e (by decide), fun e => absurd e (by decide), fun e => absurd e (by decide), fun e => absurd e (by decide), fun e => absurd e (by decide), fun e => absurd e (by decide), fun _ => hy P p, fun e => absurd e (by decide), fun e => absurd e (by decide), fun e => absurd e (by decide), fun e => absurd e (by decide)⟩⟩
        · obtain ⟨y, hr, hy⟩ := dr_move (T := T) (PL := PL) (WA := WA) (OA := OA) (TO := TO) (BI := BI) (nm := nm) (q := q) h hK
          exact ⟨y, hr, fun P p => ⟨fun e => absurd e (by decide), fun e => absurd e (by decide), fun e => absurd e (by decide), fun e => absurd e (by decide), fun e => absurd e (by decide), fun e => absurd e (by decide), fun e => absurd e (by decide), fun _ => hy P p, fun e => absurd e (by decide), fun e => absurd e (by decide), fun e => absurd e (by decide)⟩⟩
        · obtain ⟨y, hr, hy⟩ := dr_fish (T := T) (PL := PL) (WA := WA) (OA := OA) (TO := TO) (BI := BI) (nm := nm) (q := q) h hK
          exact ⟨y, hr, fun P p => ⟨fun e => absurd e (by decide), fun e => absurd e (by decide), fun e => absurd e (by decide), fun e => absurd e (by decide), fun e => absurd e (by decide), fun e => absurd e (by decide), fun e => absurd e (by decide), fun e => absurd e (by decide), fun _ => hy P p, fun e => absurd e (by decide), fun e => absurd e (by decide)⟩⟩
        · obtain ⟨y, hr, hy⟩ := dr_patience (T := T) (PL := PL) (WA := WA) (OA := OA) (TO := TO) (BI := BI) (nm := nm) (q := q) h hK
          exact ⟨y, hr, fun P p => ⟨fun e => absurd e (by decide), fun e => absurd e (by decide), fun e => absurd e (by decide), fun e => absurd e (by decide), fun e => absurd e (by decide), fun e => absurd e (by decide), fun e => absurd e (by decide), fun e => absurd e (by decide), fun e => absurd e (by decide), fun _ => hy P p, fun e => absurd e (by decide)⟩⟩
      · exact ⟨.inl (1, (T q).2.1), dr_l _, fun P p => ⟨fun e => absurd e (by omega), fun e => absurd e (by omega), fun e => absurd e (by omega), fun e => absurd e (by omega), fun e => absurd e (by omega), fun e => absurd e (by omega), fun e => absurd e (by omega), fun e => absurd e (by omega), fun e => absurd e (by omega), fun e => absurd e (by omega), fun _ => p⟩⟩
    obtain ⟨y, hr, hy⟩ := key
    refine ⟨y, hr, fun P p => ⟨fun i i1 _ hi => ?_, fun n => absurd c n⟩⟩
    have e : i = j := rv_rs_i i i1 j j1 (hi.trans hj.symm)
    rw [e]; exact hy P p
  · exact ⟨.inl (1, (T q).2.1), dr_l _, fun P p => ⟨fun i i1 a b => absurd ⟨a, fun n => n i i1 b⟩ c, fun _ => p⟩⟩
theorem dr_rows : ∀ (f : Nat) (PL WA OA : Nat → Int) (TO BI : Nat → Nat → Int) (nm : Nat → List Int) (r q : Nat), rv_ps PL WA TO BI → rv_Dr (fun P => sp_rows T (fun f a => P (.inl (f, a))) (fun PL WA OA TO BI nm r => P (.inr (PL, WA, OA, TO, BI, nm, r))) f PL WA OA TO BI nm r q)
  | 0, _, _, _, _, _, _, _, _, _ => ⟨.inl (0, 0), dr_l _, fun _ _ => trivial⟩
  | f + 1, PL, WA, OA, TO, BI, nm, r, q, h => by
    by_cases c0 : (T q).1 = 0
    · exact ⟨.inr (PL, WA, OA, TO, BI, nm, r), fun _ _ _ _ _ _ _ e => by cases e; exact h, fun P p => ⟨fun _ => p, fun e => absurd (c0.symm.trans e) (by decide), fun n => absurd c0 n⟩⟩
    · by_cases c5 : (T q).1 = 5
      · exact ⟨.inl (1, (T q).2.1), dr_l _, fun P p => ⟨fun e => absurd e c0, fun _ => p, fun _ n => absurd c5 n⟩⟩
      · obtain ⟨y, hr, hy⟩ := dr_row (T := T) (PL := PL) (WA := WA) (OA := OA) (TO := TO) (BI := BI) (nm := nm) (q := q) (K := fun PL' WA' OA' TO' BI' nm' q' P => sp_sgn T 59 (rv_x T q') (fun f a => P (.inl (f, a))) (sp_rows T (fun f a => P (.inl (f, a))) (fun PL WA OA TO BI nm r => P (.inr (PL, WA, OA, TO, BI, nm, r))) f PL' WA' OA' TO' BI' nm' (r + 1) (rv_x T (rv_x T q')))) h (fun PL' WA' OA' TO' BI' nm' q' h' => dr_sgn (dr_rows f PL' WA' OA' TO' BI' nm' (r + 1) (rv_x T (rv_x T q')) h'))
        exact ⟨y, hr, fun P p => ⟨fun e => absurd e c0, fun e => absurd e c5, fun _ _ => hy P p⟩⟩
end DS
theorem rv_0.ps {PL WA OA : Nat → Int} {TO BI : Nat → Nat → Int} {NA : Nat → Int64} (h : rv_0 PL WA OA TO BI NA) : rv_ps PL WA TO BI := by
  obtain ⟨h1, h2, h4, h5, h6, h7, h8, -⟩ := h
  refine ⟨by omega, by omega, by omega, by omega, by omega, fun t v ht hv => ?_, fun v hv => ?_, fun t v ht hv => ?_, ?_⟩
  · have := (h1 t ht).2.2.1 v hv; omega
  · have := h2 v hv; omega
  · have := (h1 t ht).2.2.2 v hv; omega
  · rw [h5]; unfold rv_ct
    rw [lq_ct_cg (g := fun _ => 0) 96 (fun i hi => (h1 (i / 12) (by omega)).2.2.2 (i % 12) (by omega))]
    exact (by decide +kernel : (0 : Int) = lq_ct (fun _ => 0) 96)
