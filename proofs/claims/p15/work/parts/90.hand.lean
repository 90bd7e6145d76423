/-! ===== by hand: rows of the machine with their values told ===== -/
theorem hn_s {M : mj_M} {a k : Nat} {z : Int} : (mj_p0 M a k z).1 a k = z := if_pos ⟨rfl, rfl⟩
theorem hn_n {M : mj_M} {a k x j : Nat} {z : Int} (h : x ≠ a ∨ j ≠ k) : (mj_p0 M a k z).1 x j = M.1 x j := if_neg (fun e => h.elim (fun q => q e.1) (fun q => q e.2))
theorem hn_ne {G : mj_G} {a b t t' n n' : Nat} (ha : G a = (t, n)) (hb : G b = (t', n')) (h : t ≠ t') : a ≠ b := fun q => h (by subst q; exact (Prod.mk.inj (ha.symm.trans hb)).1)
theorem hn_gi {fk : Nat} {l : List Nat} {m : Nat} {st : List mj_V} {G : mj_G} {M : mj_M} {k : List mj_V → Prop} {A : Prop} {v : Int} (hl : l ≠ []) (hh : mj_hd l = 11) (hf : mj_h1 l = fk) (hso : mj_so 11 fk = 0) (hm : G m = (1012, 0)) (hv : M.1 m fk = v) (hk : k (.inl v :: st)) : l ≠ [] ∧ mj_br (mj_hd l = 49) A (mj_get (mj_hd l) (mj_h1 l) (.inr (.inr (some m)) :: st) G M k) := by
  subst hf hv
  refine ⟨hl, fun e => absurd (hh.symm.trans e) (by decide), fun _ => ?_⟩
  rw [hh]
  refine ⟨1012, 0, hm, rfl, ?_⟩
  rw [hso]
  exact hk
theorem hn_gr {fk : Nat} {l : List Nat} {m b : Nat} {st : List mj_V} {G : mj_G} {M : mj_M} {k : List mj_V → Prop} {A : Prop} (hl : l ≠ []) (hh : mj_hd l = 11) (hf : mj_h1 l = fk) (hso : mj_so 11 fk = 2) (hm : G m = (1012, 0)) (hv : M.2.2 m fk = some b) (hk : k (.inr (.inr (some b)) :: st)) : l ≠ [] ∧ mj_br (mj_hd l = 49) A (mj_get (mj_hd l) (mj_h1 l) (.inr (.inr (some m)) :: st) G M k) := by
  subst hf
  refine ⟨hl, fun e => absurd (hh.symm.trans e) (by decide), fun _ => ?_⟩
  rw [hh]
  refine ⟨1012, 0, hm, rfl, ?_⟩
  rw [hso]
  refine ⟨fun b' hb => ?_, fun hb => ?_⟩
  · cases hv.symm.trans hb
    exact hk
  · cases hv.symm.trans hb
theorem hn_pi {fk : Nat} {l : List Nat} {m : Nat} {st : List mj_V} {G : mj_G} {M : mj_M} {k : List mj_V → mj_M → Prop} {v : Int} (hl : l ≠ []) (hh : mj_hd l = 11) (hf : mj_h1 l = fk) (hso : mj_so 11 fk = 0) (hm : G m = (1012, 0)) (hb : mj_ty 11 fk = .boolean → v = 0 ∨ v = 1) (hk : k st (mj_p0 M m fk v)) : l ≠ [] ∧ mj_put (mj_hd l) (mj_h1 l) (.inl v :: .inr (.inr (some m)) :: st) G M k := by
  subst hf
  refine ⟨hl, ?_⟩
  unfold mj_put
  rw [hh, hso]
  exact ⟨1012, 0, hm, rfl, by decide, hb, hk⟩
/-! what is not written -/
theorem hn_nc {W : List (Nat × Nat × Nat)} {t k : Nat} (h : W.all (fun q => !(Nat.beq q.1 t && (Nat.ble q.2.1 k && Nat.ble k q.2.2))) = true) : ¬ ab_cov W t k := by
  rintro ⟨q, hq, q1, q2, q3⟩
  have h1 := List.all_eq_true.mp h q hq
  rw [q1, Nat.beq_refl, Nat.ble_eq_true_of_le q2, Nat.ble_eq_true_of_le q3] at h1
  cases h1
theorem hn_nt {W : List (Nat × Nat × Nat)} {t k : Nat} (h : W.all (fun q => !(Nat.beq q.1 t)) = true) : ¬ ab_cov W t k := by
  rintro ⟨q, hq, q1, -, -⟩
  have h1 := List.all_eq_true.mp h q hq
  rw [q1, Nat.beq_refl] at h1
  cases h1
theorem hn_f0 {W : List (Nat × Nat × Nat)} {G : mj_G} {M0 M : mj_M} {a j : Nat} {z : Int} (h : ab_frm W G M0 M) (hc : ab_cov W (G a).1 j) : ab_frm W G M0 (mj_p0 M a j z) := h.wr ab_p0_w hc
theorem hn_up {W W' : List (Nat × Nat × Nat)} {G : mj_G} {M M' : mj_M} (h : ab_frm W G M M') (hw : W.all (fun e => ab_cw W' e.1 (.ofNat e.2.1) (.ofNat e.2.2)) = true) : ab_frm W' G M M' := fun a k hn => h a k (fun hc => hn (ab_cov_all hw hc))
/-! the height of the values' stack behind i codes; binary words on the stack -/
def hn_k (f : Nat → Int) : Nat → Nat → Prop
  | 0, n => n = 0
  | i + 1, n => ∃ k, hn_k f i k ∧ ((f i = 10 ∧ 1 ≤ k ∧ n = k) ∨ ((f i = 11 ∨ f i = 12) ∧ 2 ≤ k ∧ n + 1 = k) ∨ (f i ≠ 10 ∧ f i ≠ 11 ∧ f i ≠ 12 ∧ n = k + 1))
theorem hn_k.cg {f g : Nat → Int} : ∀ {i n : Nat}, (∀ j, j < i → f j = g j) → hn_k f i n → hn_k g i n
  | 0, _, _, h => h
  | i + 1, _, e, ⟨k, h1, h2⟩ => ⟨k, h1.cg (fun j hj => e j (by omega)), by rw [← e i (by omega)]; exact h2⟩
theorem hn_k.le {f : Nat → Int} : ∀ {i n : Nat}, hn_k f i n → n ≤ i
  | 0, _, h => by have h : _ = 0 := h; omega
  | i + 1, _, ⟨k, h1, h2⟩ => by have := h1.le; omega
theorem hn_k.fn {f : Nat → Int} : ∀ {i n m : Nat}, hn_k f i n → hn_k f i m → n = m
  | 0, _, _, h, h' => (show _ = 0 from h).trans (show _ = 0 from h').symm
  | i + 1, _, _, ⟨k, h1, h2⟩, ⟨k', h1', h2'⟩ => by
    have e := h1.fn h1'
    omega
theorem hn_k.pre {f : Nat → Int} : ∀ {j i n : Nat}, hn_k f (i + j) n → ∃ k, hn_k f i k
  | 0, _, n, h => ⟨n, h⟩
  | j + 1, i, _, ⟨_, h1, _⟩ => hn_k.pre (j := j) (i := i) h1
def hn_b (f : Nat → Int) : Nat → Nat
  | 0 => 0
  | t + 1 => hn_b f t + (if f t = 11 ∨ f t = 12 then 1 else 0)
theorem hn_b.cg {f g : Nat → Int} : ∀ {t : Nat}, (∀ j, j < t → f j = g j) → hn_b f t = hn_b g t
  | 0, _ => rfl
  | t + 1, e => by
    show hn_b f t + _ = hn_b g t + _
    rw [hn_b.cg (fun j hj => e j (by omega)), e t (by omega)]
