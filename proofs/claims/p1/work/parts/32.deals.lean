/-! ===== CONTRACTS: clear(), and their making ===== -/
def iv_cs (G : mj_G) (M : mj_M) (a f s c : Nat) : Prop := G a = (1002, 0) ∧ (M.2.2 a 0 = some f ∧ G f = (5100, 12)) ∧ (M.2.2 a 1 = some s ∧ G s = (6100, 12)) ∧ M.2.2 a 2 = some c ∧ G c = (1100, 12)
theorem iv_tne {G : mj_G} {a b t t' n n' : Nat} (ha : G a = (t, n)) (hb : G b = (t', n')) (h : t ≠ t') : a ≠ b := fun q => h (by subst q; exact (Prod.mk.inj (ha.symm.trans hb)).1)
abbrev mj_ms : Nat → Nat × Nat := fun y => (mj_tab y).2.2.2.2.2.2
set_option maxRecDepth 100000 in
theorem r_deals_loop {d a f s c : Nat} {G : mj_G} {Q : mj_P} : ∀ (j : Nat) (m : Int) (M : mj_M), m = 12 - j → j ≤ 12 → iv_cs G M a f s c → (∀ k : Nat, (k : Int) < m → M.1 f k = -1 ∧ M.1 s k = -1 ∧ M.1 c k = 0) →
    (∀ M', M'.2 = M.2 → (∀ x k, x ≠ f → x ≠ s → x ≠ c → ¬ (x = a ∧ k = 3) → M'.1 x k = M.1 x k) → (∀ k, k < 12 → M'.1 f k = -1 ∧ M'.1 s k = -1 ∧ M'.1 c k = 0) → M'.1 a 3 = 0 → Q none G M') →
    mj_W mj_ms (mj_R mj_tab d) mt_X1_clear.2.2.2.2.1 Q (mt_X1_clear.2.2.2.2.1.drop 2) [some (.inr (.inr (some a))), some (.inl m)] [] G M 0 0 := by
  intro j
  induction j with
  | zero =>
    intro m M hm hj hs hk hQ
    have hGa := hs.1
    refine mj_W.run (mj_R_mo _ _) 12 ?_
    refine And.intro (fun c1 => ?_) (fun c1 => absurd (show (12 : Int) ≤ m by omega) c1)
    refine And.intro (List.cons_ne_nil _ _) ⟨1002, 0, hGa, rfl, by decide, (fun q => by cases q), ?_⟩
    have n1 : f ≠ a := iv_tne hs.2.1.2 hGa (by decide)
    have n2 : s ≠ a := iv_tne hs.2.2.1.2 hGa (by decide)
    have n3 : c ≠ a := iv_tne hs.2.2.2.2 hGa (by decide)
    refine And.intro rfl (hQ _ rfl (fun x k _ _ _ h4 => iv_p0n ?_) (fun k hk2 => ?_) iv_p0s)
    · by_cases q : x = a
      · exact Or.inr (fun e => h4 ⟨q, e⟩)
      · exact Or.inl q
    · obtain ⟨w1, w2, w3⟩ := hk k (by omega)
      exact ⟨(iv_p0n (Or.inl n1)).trans w1, (iv_p0n (Or.inl n2)).trans w2, (iv_p0n (Or.inl n3)).trans w3⟩
  | succ j ih =>
    intro m M hm hj hs hk hQ
    have hs0 := hs
    obtain ⟨hGa, ⟨hf, hGf⟩, ⟨hss, hGs⟩, hc, hGc⟩ := hs
    have h0 : 0 ≤ m := by omega
    have h12 : m < (12 : Nat) := by omega
    refine mj_W.run (mj_R_mo _ _) 20 ?_
    refine And.intro (fun c1 => absurd (show (12 : Int) ≤ m from c1) (by omega)) (fun c1 => ?_)
    refine And.intro (List.cons_ne_nil _ _) ⟨1002, 0, hGa, rfl, fun b hb => ?_, fun hb => by cases hf.symm.trans hb⟩
    cases hf.symm.trans hb
    refine ⟨5100, 12, hGf, rfl, by decide, h0, h12, ?_⟩
    refine And.intro (List.cons_ne_nil _ _) ⟨1002, 0, hGa, rfl, fun b hb => ?_, fun hb => by cases hss.symm.trans hb⟩
    cases hss.symm.trans hb
    refine ⟨6100, 12, hGs, rfl, by decide, h0, h12, ?_⟩
    refine And.intro (List.cons_ne_nil _ _) ⟨1002, 0, hGa, rfl, fun b hb => ?_, fun hb => by cases hc.symm.trans hb⟩
    cases hc.symm.trans hb
    refine ⟨1100, 12, hGc, rfl, by decide, h0, h12, ?_⟩
    refine And.intro ⟨by omega, by omega⟩ ?_
    have nfs : f ≠ s := iv_tne hGf hGs (by decide)
    have nfc : f ≠ c := iv_tne hGf hGc (by decide)
    have nsc : s ≠ c := iv_tne hGs hGc (by decide)
    refine (show mj_W mj_ms (mj_R mj_tab d) mt_X1_clear.2.2.2.2.1 Q (mt_X1_clear.2.2.2.2.1.drop 2) [some (.inr (.inr (some a))), some (.inl (m + 1))] [] G (mj_p0 (mj_p0 (mj_p0 M f m.toNat (-1)) s m.toNat (-1)) c m.toNat 0) 0 0 from ih (m + 1) _ (by omega) (by omega) hs0 (fun k hk2 => ?_) (fun M' e1 e2 e3 e4 => hQ M' e1 (fun x k x1 x2 x3 x4 => ?_) e3 e4))
    · by_cases hkm : k = m.toNat
      · subst hkm
        exact ⟨(iv_p0n (Or.inl nfc)).trans ((iv_p0n (Or.inl nfs)).trans iv_p0s), (iv_p0n (Or.inl nsc)).trans iv_p0s, iv_p0s⟩
      · obtain ⟨w1, w2, w3⟩ := hk k (by omega)
        exact ⟨(iv_p0n (Or.inr hkm)).trans ((iv_p0n (Or.inr hkm)).trans ((iv_p0n (Or.inr hkm)).trans w1)), (iv_p0n (Or.inr hkm)).trans ((iv_p0n (Or.inr hkm)).trans ((iv_p0n (Or.inr hkm)).trans w2)), (iv_p0n (Or.inr hkm)).trans ((iv_p0n (Or.inr hkm)).trans ((iv_p0n (Or.inr hkm)).trans w3))⟩
    · rw [e2 x k x1 x2 x3 x4]
      exact (iv_p0n (Or.inl x3)).trans ((iv_p0n (Or.inl x2)).trans (iv_p0n (Or.inl x1)))
set_option maxRecDepth 100000 in
theorem r_deals_clear {d a f s c : Nat} {G : mj_G} {M : mj_M} {Q : mj_P} (hs : iv_cs G M a f s c)
    (hQ : ∀ M', M'.2 = M.2 → (∀ x k, x ≠ f → x ≠ s → x ≠ c → ¬ (x = a ∧ k = 3) → M'.1 x k = M.1 x k) → (∀ k, k < 12 → M'.1 f k = -1 ∧ M'.1 s k = -1 ∧ M'.1 c k = 0) → M'.1 a 3 = 0 → Q none G M') : mj_R mj_tab (d + 1) n_X1_clear [.inr (.inr (some a))] G M Q := by
  refine ⟨Nat.le_of_ble_eq_true rfl, mj_W.run (mj_R_mo _ _) 2 ?_⟩
  exact r_deals_loop 12 0 M rfl (Nat.le_refl 12) hs (fun k hk => by omega) hQ
