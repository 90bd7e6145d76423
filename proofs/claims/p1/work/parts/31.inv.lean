/-! ===== what later addresses keep: old cells as they were ===== -/
/-- G', M' hold all that G, M hold, but for the cells of S -/
def iv_ext (S : Nat → Prop) (G : mj_G) (M : mj_M) (G' : mj_G) (M' : mj_M) : Prop := ∀ x, (G x).1 ≠ 0 → ¬ S x → G' x = G x ∧ (∀ k, M'.1 x k = M.1 x k) ∧ (∀ k, M'.2.1 x k = M.2.1 x k) ∧ ∀ k, M'.2.2 x k = M.2.2 x k
theorem iv_ext.rf {S : Nat → Prop} {G : mj_G} {M : mj_M} : iv_ext S G M G M := fun _ _ _ => ⟨rfl, fun _ => rfl, fun _ => rfl, fun _ => rfl⟩
theorem iv_ext.trans {S : Nat → Prop} {G G1 G2 : mj_G} {M M1 M2 : mj_M} (h : iv_ext S G M G1 M1) (h2 : iv_ext S G1 M1 G2 M2) : iv_ext S G M G2 M2 := fun x hx hs => by
  obtain ⟨a, b, c, d⟩ := h x hx hs
  obtain ⟨a2, b2, c2, d2⟩ := h2 x (by rw [a]; exact hx) hs
  exact ⟨a2.trans a, fun k => (b2 k).trans (b k), fun k => (c2 k).trans (c k), fun k => (d2 k).trans (d k)⟩
theorem iv_ext.g {S : Nat → Prop} {G : mj_G} {M : mj_M} {a t n : Nat} (ha : ∀ x, a ≤ x → G x = (0, 0)) : iv_ext S G M (mj_g G a t n) (mj_z M a) := fun x hx _ => by
  have hne : x ≠ a := fun q => hx (by rw [q, ha a (Nat.le_refl a)])
  refine ⟨by unfold mj_g; rw [if_neg hne], fun k => ?_, fun k => ?_, fun k => ?_⟩ <;> (unfold mj_z; dsimp only; rw [if_neg hne])
theorem iv_ext.gg {S : Nat → Prop} {G : mj_G} {M : mj_M} {a t n t2 m : Nat} (ha : ∀ x, a ≤ x → G x = (0, 0)) : iv_ext S G M (mj_gg G a t n t2 m) (mj_zz M a n) := fun x hx _ => by
  have hne : ¬ a ≤ x := fun q => hx (by rw [ha x q])
  have h1 : x ≠ a := fun q => hne (by omega)
  have h2 : ¬ (a < x ∧ x ≤ a + n) := fun q => hne (by omega)
  have h3 : ¬ (a ≤ x ∧ x ≤ a + n) := fun q => hne q.1
  refine ⟨by unfold mj_gg; rw [if_neg h1, if_neg h2], fun k => ?_, fun k => ?_, fun k => ?_⟩
  · unfold mj_zz; dsimp only; rw [if_neg h3]
  · unfold mj_zz; dsimp only; rw [if_neg h3]
  · unfold mj_zz; dsimp only; rw [if_neg h1, if_neg h3]
theorem iv_ext.p0 {S : Nat → Prop} {G : mj_G} {M : mj_M} {a k : Nat} {z : Int} (hs : S a) : iv_ext S G M G (mj_p0 M a k z) := fun x _ hx => by
  have hne : ∀ j, ¬ (x = a ∧ j = k) := fun j q => hx (q.1 ▸ hs)
  exact ⟨rfl, fun j => by unfold mj_p0; dsimp only; rw [if_neg (hne j)], fun _ => rfl, fun _ => rfl⟩
theorem iv_ext.p1 {S : Nat → Prop} {G : mj_G} {M : mj_M} {a k : Nat} {z : Int64} (hs : S a) : iv_ext S G M G (mj_p1 M a k z) := fun x _ hx => by
  have hne : ∀ j, ¬ (x = a ∧ j = k) := fun j q => hx (q.1 ▸ hs)
  exact ⟨rfl, fun _ => rfl, fun j => by unfold mj_p1; dsimp only; rw [if_neg (hne j)], fun _ => rfl⟩
theorem iv_ext.p2 {S : Nat → Prop} {G : mj_G} {M : mj_M} {a k : Nat} {z : Option Nat} (hs : S a) : iv_ext S G M G (mj_p2 M a k z) := fun x _ hx => by
  have hne : ∀ j, ¬ (x = a ∧ j = k) := fun j q => hx (q.1 ▸ hs)
  exact ⟨rfl, fun _ => rfl, fun _ => rfl, fun j => by unfold mj_p2; dsimp only; rw [if_neg (hne j)]⟩
theorem iv_up {S S' : Nat → Prop} {G G' : mj_G} {M M' : mj_M} (h : iv_ext S G M G' M') (hs : ∀ x, S x → S' x) : iv_ext S' G M G' M' := fun x hx hn => h x hx (fun q => hn (hs x q))
/-- reads behind writes -/
theorem iv_p0s {M : mj_M} {a k : Nat} {z : Int} : (mj_p0 M a k z).1 a k = z := by simp [mj_p0]
theorem iv_p0n {M : mj_M} {a k x j : Nat} {z : Int} (h : x ≠ a ∨ j ≠ k) : (mj_p0 M a k z).1 x j = M.1 x j := by
  unfold mj_p0; dsimp only; rw [if_neg (fun q => h.elim (fun e => e q.1) (fun e => e q.2))]
theorem iv_p2s {M : mj_M} {a k : Nat} {z : Option Nat} : (mj_p2 M a k z).2.2 a k = z := by simp [mj_p2]
theorem iv_p2n {M : mj_M} {a k x j : Nat} {z : Option Nat} (h : x ≠ a ∨ j ≠ k) : (mj_p2 M a k z).2.2 x j = M.2.2 x j := by
  unfold mj_p2; dsimp only; rw [if_neg (fun q => h.elim (fun e => e q.1) (fun e => e q.2))]
theorem iv_gs {G : mj_G} {a t n : Nat} : mj_g G a t n a = (t, n) := by simp [mj_g]
theorem iv_gn {G : mj_G} {a t n x t' n' : Nat} (ha : ∀ x, a ≤ x → G x = (0, 0)) (hx : G x = (t', n')) (ht : t' ≠ 0) : mj_g G a t n x = (t', n') := by
  unfold mj_g
  rw [if_neg (fun q => ht (by have := ha x (by omega); rw [hx] at this; exact (Prod.mk.inj this).1))]
  exact hx
theorem iv_ne {G : mj_G} {a x t' n' : Nat} (ha : ∀ x, a ≤ x → G x = (0, 0)) (hx : G x = (t', n')) (ht : t' ≠ 0) : x ≠ a := fun q => ht (by have := ha x (by omega); rw [hx] at this; exact (Prod.mk.inj this).1)
/-- a new Tape: its bytes, nothing on it -/
def iv_tape (G : mj_G) (M : mj_M) (a : Nat) : Prop := ∃ b, M.2.2 a 0 = some b ∧ G b = (1101, 940) ∧ b ≠ a ∧ M.1 a 1 = 0 ∧ M.1 a 2 = 0 ∧ M.1 a 3 = 0 ∧ M.2.2 a 9 = none
set_option maxRecDepth 100000 in
theorem r_Tape_init {d a : Nat} {G : mj_G} {M : mj_M} {Q : mj_P} (ha : G a = (1008, 0)) (h : ∀ G' M', iv_ext (fun x => x = a) G M G' M' → G' a = (1008, 0) → iv_tape G' M' a → Q none G' M') : mj_R mj_tab (d + 1) n_X7_init [.inr (.inr (some a))] G M Q := by
  refine ⟨Nat.le_refl 1, mj_W.run (mj_R_mo _ _) 50 ?_⟩
  refine And.intro (by decide) ?_
  refine ⟨by decide, by decide, by decide, by decide, 1101, rfl, fun b hb => ?_⟩
  have hG : mj_g G b 1101 940 a = (1008, 0) := iv_gn hb ha (by decide)
  have hab : a ≠ b := iv_ne hb ha (by decide)
  refine And.intro (List.cons_ne_nil _ _) ⟨1008, 0, hG, rfl, by decide, ?_⟩
  refine And.intro (List.cons_ne_nil _ _) ⟨1008, 0, hG, rfl, by decide, (fun q => by cases q), ?_⟩
  refine And.intro (List.cons_ne_nil _ _) ⟨1008, 0, hG, rfl, by decide, (fun q => by cases q), ?_⟩
  refine And.intro (List.cons_ne_nil _ _) ⟨1008, 0, hG, rfl, by decide, (fun q => by cases q), ?_⟩
  refine And.intro (List.cons_ne_nil _ _) ⟨1008, 0, hG, rfl, by decide, (fun q => by cases q), ?_⟩
  refine And.intro (List.cons_ne_nil _ _) ⟨1008, 0, hG, rfl, by decide, (fun q => by cases q), ?_⟩
  refine And.intro (List.cons_ne_nil _ _) ⟨1008, 0, hG, rfl, by decide, (fun q => by cases q), ?_⟩
  refine And.intro (List.cons_ne_nil _ _) ⟨1008, 0, hG, rfl, by decide, (fun q => by cases q), ?_⟩
  refine And.intro (List.cons_ne_nil _ _) ⟨1008, 0, hG, rfl, by decide, ?_⟩
  refine And.intro (List.cons_ne_nil _ _) ⟨1008, 0, hG, rfl, by decide, ?_⟩
  refine And.intro (List.cons_ne_nil _ _) ⟨1008, 0, hG, rfl, by decide, (fun q => by cases q), ?_⟩
  refine And.intro (List.cons_ne_nil _ _) ⟨1008, 0, hG, rfl, by decide, (fun q => by cases q), ?_⟩
  refine And.intro rfl (h _ _ ?_ hG ?_)
  · refine iv_ext.trans ?_ (iv_ext.p0 rfl)
    refine iv_ext.trans ?_ (iv_ext.p0 rfl)
    refine iv_ext.trans ?_ (iv_ext.p2 rfl)
    refine iv_ext.trans ?_ (iv_ext.p1 rfl)
    refine iv_ext.trans ?_ (iv_ext.p0 rfl)
    refine iv_ext.trans ?_ (iv_ext.p0 rfl)
    refine iv_ext.trans ?_ (iv_ext.p0 rfl)
    refine iv_ext.trans ?_ (iv_ext.p0 rfl)
    refine iv_ext.trans ?_ (iv_ext.p0 rfl)
    refine iv_ext.trans ?_ (iv_ext.p0 rfl)
    refine iv_ext.trans ?_ (iv_ext.p0 rfl)
    refine iv_ext.trans ?_ (iv_ext.p2 rfl)
    exact iv_ext.g hb
  · refine ⟨b, ?_, iv_gs, hab.symm, ?_, ?_, ?_, ?_⟩ <;> simp [mj_p0, mj_p1, mj_p2, mj_h1]
