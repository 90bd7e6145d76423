/-! ===== by hand: isSaid and said of the reference ===== -/
abbrev hn_WV : List (Nat × Nat × Nat) := [(69102, 0, 44)]
set_option maxRecDepth 100000 in
theorem r_isSaid_w {d m s vs c N : Nat} {k : Int} {G : mj_G} {M : mj_M} {Q : mj_P} (hm : G m = (1012, 0)) (hs : G s = (51100, 537)) (hvs : G vs = (69102, 45)) (hk0 : 0 ≤ k ∧ k ≤ 7) (h6 : M.2.2 m 6 = some s) (h58 : M.2.2 m 58 = some vs) (hc : M.1 s 356 = (c : Int)) (hc1 : c ≤ 45) (hN : hn_k (fun i => M.1 s (356 + 1 + 3 * i)) c N)
    (hQ : ∀ z M', ab_Inv G M' → ab_frm hn_WV G M M' → (z = 0 ∨ z = 1) → Q (some (.inl z)) G M') : ∀ (j i n : Nat) (M1 : mj_M) (x : Option mj_V) (cb sb : Nat), i + j = c → hn_k (fun i => M.1 s (356 + 1 + 3 * i)) i n → ab_Inv G M1 → ab_frm hn_WV G M M1 → mj_W sx_ms (mj_R mj_tab (d + 2)) mt_X12_isSaid.2.2.2.2.1 Q (mt_X12_isSaid.2.2.2.2.1.drop 4) [some (.inr (.inr (some m))), some (.inl k), some (.inl (n : Int)), some (.inl (i : Int)), x] [] G M1 cb sb := by
  have ks : ∀ {M1 : mj_M}, ab_frm hn_WV G M M1 → ∀ p, M1.1 s p = M.1 s p := fun f p => (f s p (by rw [hs]; exact hn_nt (by decide))).1
  have k6 : ∀ {M1 : mj_M}, ab_frm hn_WV G M M1 → M1.2.2 m 6 = some s := fun f => (f m 6 (by rw [hm]; exact hn_nc (by decide))).2.trans h6
  have k58 : ∀ {M1 : mj_M}, ab_frm hn_WV G M M1 → M1.2.2 m 58 = some vs := fun f => (f m 58 (by rw [hm]; exact hn_nc (by decide))).2.trans h58
  have iv : ∀ {M1 : mj_M} {p : Nat} {z : Int}, ab_Inv G M1 → (z = 0 ∨ z = 1) → ab_Inv G (mj_p0 M1 vs p z) := fun {M1 p z} h hz => h.p0 (by
    rw [hvs]
    rcases hz with rfl | rfl
    · exact ⟨(by decide : (0 : Int) ≤ 0), (by decide : (0 : Int) ≤ 1)⟩
    · exact ⟨(by decide : (0 : Int) ≤ 1), (by decide : (1 : Int) ≤ 1)⟩)
  have fv : ∀ {M1 : mj_M} {p : Nat} {z : Int}, ab_frm hn_WV G M M1 → p ≤ 44 → ab_frm hn_WV G M (mj_p0 M1 vs p z) := fun {M1 p z} h hp => hn_f0 h ⟨(69102, 0, 44), by decide, by rw [hvs], Nat.zero_le _, hp⟩
  intro j
  induction j with
  | zero =>
    intro i n M1 x cb sb hi hn I1 F1
    refine mj_W.run (mj_R_mo _ _) 20 ?_
    refine hn_gr (fk := 6) (List.cons_ne_nil _ _) rfl rfl rfl hm (k6 F1) ?_
    refine ⟨51100, 537, hs, rfl, by show (0 : Int) ≤ (356 : Int); omega, by show (356 : Int) < ((537 : Nat) : Int); omega, ?_⟩
    refine ⟨fun c1 => ?_, fun c1 => absurd (show M1.1 s 356 ≤ (i : Int) by rw [ks F1, hc]; omega) c1⟩
    refine hn_gr (fk := 58) (List.cons_ne_nil _ _) rfl rfl rfl hm (k58 F1) ?_
    refine Or.inr ⟨69102, 45, hvs, rfl, by show (0 : Int) ≤ (0 : Int); omega, by show (0 : Int) < ((45 : Nat) : Int); omega, ?_⟩
    have r := I1.1 vs 0
    rw [hvs] at r
    have r : (0 : Int) ≤ M1.1 vs 0 ∧ M1.1 vs 0 ≤ 1 := r
    have r2 : M1.1 vs 0 = 0 ∨ M1.1 vs 0 = 1 := by omega
    exact ⟨rfl, fun _ => r2, hQ _ M1 I1 F1 r2⟩
  | succ j ih =>
    intro i n M1 x cb sb hi hn I1 F1
    obtain ⟨n2, n0, hn0, hst⟩ : ∃ n2, hn_k (fun i => M.1 s (356 + 1 + 3 * i)) (i + 1) n2 := hn_k.pre (j := j) (i := i + 1) (by rw [show i + 1 + j = c by omega]; exact hN)
    have en := hn0.fn hn
    subst en
    have hle := hn0.le
    have hst : (M.1 s (356 + 1 + 3 * i) = 10 ∧ 1 ≤ n0 ∧ n2 = n0) ∨ ((M.1 s (356 + 1 + 3 * i) = 11 ∨ M.1 s (356 + 1 + 3 * i) = 12) ∧ 2 ≤ n0 ∧ n2 + 1 = n0) ∨ (M.1 s (356 + 1 + 3 * i) ≠ 10 ∧ M.1 s (356 + 1 + 3 * i) ≠ 11 ∧ M.1 s (356 + 1 + 3 * i) ≠ 12 ∧ n2 = n0 + 1) := hst
    have hn2 : hn_k (fun i => M.1 s (356 + 1 + 3 * i)) (i + 1) n2 := ⟨n0, hn0, hst⟩
    have ti : ((357 : Int) + 3 * (i : Int)).toNat = 356 + 1 + 3 * i := by omega
    have P120 : ∀ (M2 : mj_M) (nz : Int) (y : Option mj_V) (cb sb : Nat), nz = (n2 : Int) → ab_Inv G M2 → ab_frm hn_WV G M M2 → mj_W sx_ms (mj_R mj_tab (d + 2)) mt_X12_isSaid.2.2.2.2.1 Q (mt_X12_isSaid.2.2.2.2.1.drop 120) [some (.inr (.inr (some m))), some (.inl k), some (.inl nz), some (.inl (i : Int)), y] [] G M2 cb sb := by
      intro M2 nz y cb sb e I2 F2
      subst e
      refine mj_W.run (mj_R_mo _ _) 2 ?_
      refine Or.inl ⟨⟨by show (-2147483648 : Int) ≤ (i : Int) + 1; omega, by show (i : Int) + 1 < (2147483648 : Int); omega⟩, ?_⟩
      exact ih (i + 1) n2 M2 y cb sb (by omega) hn2 I2 F2
    have P37 : ∀ (z : Int) (cb sb : Nat), (z = 0 ∨ z = 1) → 1 ≤ n0 → n2 = n0 → mj_W sx_ms (mj_R mj_tab (d + 2)) mt_X12_isSaid.2.2.2.2.1 Q (mt_X12_isSaid.2.2.2.2.1.drop 37) [some (.inr (.inr (some m))), some (.inl k), some (.inl (n0 : Int)), some (.inl (i : Int)), some (.inl ((357 : Int) + 3 * (i : Int)))] [.inl z, .inl ((n0 : Int) - 1), .inr (.inr (some vs))] G M1 cb sb := by
      intro z cb sb hz h1 h2
      refine mj_W.run (mj_R_mo _ _) 2 ?_
      refine Or.inr ⟨hz, ⟨69102, 45, hvs, rfl, by decide, by show (0 : Int) ≤ (n0 : Int) - 1; omega, by show (n0 : Int) - 1 < ((45 : Nat) : Int); omega, ?_⟩⟩
      exact P120 _ _ _ _ _ (by omega) (iv I1 hz) (fv F1 (by show ((n0 : Int) - 1).toNat ≤ 44; omega))
    have P94 : ∀ (z nz : Int) (cb sb : Nat), (z = 0 ∨ z = 1) → nz = (n2 : Int) → 2 ≤ n0 → n2 + 1 = n0 → mj_W sx_ms (mj_R mj_tab (d + 2)) mt_X12_isSaid.2.2.2.2.1 Q (mt_X12_isSaid.2.2.2.2.1.drop 94) [some (.inr (.inr (some m))), some (.inl k), some (.inl nz), some (.inl (i : Int)), some (.inl ((357 : Int) + 3 * (i : Int)))] [.inl z, .inl (nz - 1), .inr (.inr (some vs))] G M1 cb sb := by
      intro z nz cb sb hz e h1 h2
      subst e
      refine mj_W.run (mj_R_mo _ _) 2 ?_
      refine Or.inr ⟨hz, ⟨69102, 45, hvs, rfl, by decide, by show (0 : Int) ≤ (n2 : Int) - 1; omega, by show (n2 : Int) - 1 < ((45 : Nat) : Int); omega, ?_⟩⟩
      exact P120 _ _ _ _ _ rfl (iv I1 hz) (fv F1 (by show ((n2 : Int) - 1).toNat ≤ 44; omega))
    have P51 : (M.1 s (356 + 1 + 3 * i) = 11 ∨ M.1 s (356 + 1 + 3 * i) = 12) → ∀ cb sb : Nat, mj_W sx_ms (mj_R mj_tab (d + 2)) mt_X12_isSaid.2.2.2.2.1 Q (mt_X12_isSaid.2.2.2.2.1.drop 51) [some (.inr (.inr (some m))), some (.inl k), some (.inl (n0 : Int)), some (.inl (i : Int)), some (.inl ((357 : Int) + 3 * (i : Int)))] [] G M1 cb sb := by
      intro hb cb sb
      have h1 : 2 ≤ n0 ∧ n2 + 1 = n0 := by omega
      have e0 : (n0 : Int) + -1 = (n2 : Int) := by omega
      refine mj_W.run (mj_R_mo _ _) 44 ?_
      refine Or.inl ⟨⟨by show (-2147483648 : Int) ≤ (n0 : Int) + -1; omega, by show (n0 : Int) + -1 < (2147483648 : Int); omega⟩, ?_⟩
      refine hn_gr (fk := 58) (List.cons_ne_nil _ _) rfl rfl rfl hm (k58 F1) ?_
      refine Or.inl ⟨⟨by show (-2147483648 : Int) ≤ (n0 : Int) + -1 - 1; omega, by show (n0 : Int) + -1 - 1 < (2147483648 : Int); omega⟩, ?_⟩
      refine hn_gr (fk := 6) (List.cons_ne_nil _ _) rfl rfl rfl hm (k6 F1) ?_
      refine ⟨51100, 537, hs, rfl, by show (0 : Int) ≤ (357 : Int) + 3 * (i : Int); omega, by show (357 : Int) + 3 * (i : Int) < ((537 : Nat) : Int); omega, ?_⟩
      refine ⟨fun _ => ?_, fun _ => ?_⟩
      · refine hn_gr (fk := 58) (List.cons_ne_nil _ _) rfl rfl rfl hm (k58 F1) ?_
        refine Or.inl ⟨⟨by show (-2147483648 : Int) ≤ (n0 : Int) + -1 - 1; omega, by show (n0 : Int) + -1 - 1 < (2147483648 : Int); omega⟩, ?_⟩
        refine Or.inr ⟨69102, 45, hvs, rfl, by show (0 : Int) ≤ (n0 : Int) + -1 - 1; omega, by show (n0 : Int) + -1 - 1 < ((45 : Nat) : Int); omega, ?_⟩
        refine ⟨fun _ => mj_W.stay (mj_R_mo _ _) 23 (P94 1 _ _ _ (Or.inr rfl) e0 h1.1 h1.2), fun _ => ?_⟩
        refine hn_gr (fk := 58) (List.cons_ne_nil _ _) rfl rfl rfl hm (k58 F1) ?_
        refine Or.inr ⟨69102, 45, hvs, rfl, by show (0 : Int) ≤ (n0 : Int) + -1; omega, by show (n0 : Int) + -1 < ((45 : Nat) : Int); omega, ?_⟩
        exact ⟨fun _ => mj_W.stay (mj_R_mo _ _) 19 (P94 0 _ _ _ (Or.inl rfl) e0 h1.1 h1.2), fun _ => mj_W.stay (mj_R_mo _ _) 18 (P94 1 _ _ _ (Or.inr rfl) e0 h1.1 h1.2)⟩
      · refine hn_gr (fk := 58) (List.cons_ne_nil _ _) rfl rfl rfl hm (k58 F1) ?_
        refine Or.inl ⟨⟨by show (-2147483648 : Int) ≤ (n0 : Int) + -1 - 1; omega, by show (n0 : Int) + -1 - 1 < (2147483648 : Int); omega⟩, ?_⟩
        refine Or.inr ⟨69102, 45, hvs, rfl, by show (0 : Int) ≤ (n0 : Int) + -1 - 1; omega, by show (n0 : Int) + -1 - 1 < ((45 : Nat) : Int); omega, ?_⟩
        refine ⟨fun _ => mj_W.stay (mj_R_mo _ _) 23 (P94 0 _ _ _ (Or.inl rfl) e0 h1.1 h1.2), fun _ => ?_⟩
        refine hn_gr (fk := 58) (List.cons_ne_nil _ _) rfl rfl rfl hm (k58 F1) ?_
        refine Or.inr ⟨69102, 45, hvs, rfl, by show (0 : Int) ≤ (n0 : Int) + -1; omega, by show (n0 : Int) + -1 < ((45 : Nat) : Int); omega, ?_⟩
        exact ⟨fun _ => mj_W.stay (mj_R_mo _ _) 18 (P94 0 _ _ _ (Or.inl rfl) e0 h1.1 h1.2), fun _ => mj_W.stay (mj_R_mo _ _) 18 (P94 1 _ _ _ (Or.inr rfl) e0 h1.1 h1.2)⟩
    have P96 : (M.1 s (356 + 1 + 3 * i) ≠ 10 ∧ M.1 s (356 + 1 + 3 * i) ≠ 11 ∧ M.1 s (356 + 1 + 3 * i) ≠ 12) → ∀ cb sb : Nat, mj_W sx_ms (mj_R mj_tab (d + 2)) mt_X12_isSaid.2.2.2.2.1 Q (mt_X12_isSaid.2.2.2.2.1.drop 96) [some (.inr (.inr (some m))), some (.inl k), some (.inl (n0 : Int)), some (.inl (i : Int)), some (.inl ((357 : Int) + 3 * (i : Int)))] [] G M1 cb sb := by
      intro hb cb sb
      have h1 : n2 = n0 + 1 := by omega
      refine mj_W.run (mj_R_mo _ _) 24 ?_
      refine hn_gr (fk := 58) (List.cons_ne_nil _ _) rfl rfl rfl hm (k58 F1) ?_
      refine hn_gr (fk := 6) (List.cons_ne_nil _ _) rfl rfl rfl hm (k6 F1) ?_
      refine ⟨51100, 537, hs, rfl, by show (0 : Int) ≤ (357 : Int) + 3 * (i : Int); omega, by show (357 : Int) + 3 * (i : Int) < ((537 : Nat) : Int); omega, ?_⟩
      refine hn_gr (fk := 6) (List.cons_ne_nil _ _) rfl rfl rfl hm (k6 F1) ?_
      refine Or.inl ⟨⟨by show (-2147483648 : Int) ≤ (357 : Int) + 3 * (i : Int) + 1; omega, by show (357 : Int) + 3 * (i : Int) + 1 < (2147483648 : Int); omega⟩, ?_⟩
      refine ⟨51100, 537, hs, rfl, by show (0 : Int) ≤ (357 : Int) + 3 * (i : Int) + 1; omega, by show (357 : Int) + 3 * (i : Int) + 1 < ((537 : Nat) : Int); omega, ?_⟩
      refine hn_gr (fk := 6) (List.cons_ne_nil _ _) rfl rfl rfl hm (k6 F1) ?_
      refine Or.inl ⟨⟨by show (-2147483648 : Int) ≤ (357 : Int) + 3 * (i : Int) + 2; omega, by show (357 : Int) + 3 * (i : Int) + 2 < (2147483648 : Int); omega⟩, ?_⟩
      refine ⟨51100, 537, hs, rfl, by show (0 : Int) ≤ (357 : Int) + 3 * (i : Int) + 2; omega, by show (357 : Int) + 3 * (i : Int) + 2 < ((537 : Nat) : Int); omega, ?_⟩
      refine ⟨List.cons_ne_nil _ _, 1012, 0, hm, rfl, Nat.le_of_ble_eq_true rfl, Nat.zero_le _, Nat.zero_le _, ?_⟩
      refine r_isLeaf hm I1 hk0 (I1.mj _ _) (I1.mj _ _) (I1.mj _ _) (fun M2 z I2 f2 hz => ?_)
      have F2 : ab_frm hn_WV G M M2 := F1.tr (hn_up f2 (by decide))
      refine Or.inr ⟨hz, ⟨69102, 45, hvs, rfl, by decide, by show (0 : Int) ≤ (n0 : Int); omega, by show (n0 : Int) < ((45 : Nat) : Int); omega, ?_⟩⟩
      refine Or.inl ⟨⟨by show (-2147483648 : Int) ≤ (n0 : Int) + 1; omega, by show (n0 : Int) + 1 < (2147483648 : Int); omega⟩, ?_⟩
      exact P120 _ _ _ _ _ (by show (n0 : Int) + 1 = _; omega) (iv I2 hz) (fv F2 (by show ((n0 : Int)).toNat ≤ 44; omega))
    refine mj_W.run (mj_R_mo _ _) 60 ?_
    refine hn_gr (fk := 6) (List.cons_ne_nil _ _) rfl rfl rfl hm (k6 F1) ?_
    refine ⟨51100, 537, hs, rfl, by show (0 : Int) ≤ (356 : Int); omega, by show (356 : Int) < ((537 : Nat) : Int); omega, ?_⟩
    refine ⟨fun c1 => absurd (show M1.1 s 356 ≤ (i : Int) from c1) (by rw [ks F1, hc]; omega), fun c1 => ?_⟩
    refine Or.inl ⟨⟨by show (-2147483648 : Int) ≤ 3 * (i : Int); omega, by show 3 * (i : Int) < (2147483648 : Int); omega⟩, ?_⟩
    refine Or.inl ⟨⟨by show (-2147483648 : Int) ≤ (357 : Int) + 3 * (i : Int); omega, by show (357 : Int) + 3 * (i : Int) < (2147483648 : Int); omega⟩, ?_⟩
    refine hn_gr (fk := 6) (List.cons_ne_nil _ _) rfl rfl rfl hm (k6 F1) ?_
    refine ⟨51100, 537, hs, rfl, by show (0 : Int) ≤ (357 : Int) + 3 * (i : Int); omega, by show (357 : Int) + 3 * (i : Int) < ((537 : Nat) : Int); omega, ?_⟩
    refine ⟨fun c2 => ?_, fun c2 => ?_⟩
    · have c2 : M.1 s (356 + 1 + 3 * i) ≠ 10 := by
        have c2 : M1.1 s ((357 : Int) + 3 * (i : Int)).toNat ≠ 10 := c2
        rw [ti, ks F1] at c2
        exact c2
      refine hn_gr (fk := 6) (List.cons_ne_nil _ _) rfl rfl rfl hm (k6 F1) ?_
      refine ⟨51100, 537, hs, rfl, by show (0 : Int) ≤ (357 : Int) + 3 * (i : Int); omega, by show (357 : Int) + 3 * (i : Int) < ((537 : Nat) : Int); omega, ?_⟩
      refine ⟨fun c3 => mj_W.stay (mj_R_mo _ _) _ (P51 (Or.inl (by
        have c3 : M1.1 s ((357 : Int) + 3 * (i : Int)).toNat = 11 := c3
        rw [ti, ks F1] at c3
        exact c3)) _ _), fun c3 => ?_⟩
      have c3 : M.1 s (356 + 1 + 3 * i) ≠ 11 := by
        have c3 : ¬ M1.1 s ((357 : Int) + 3 * (i : Int)).toNat = 11 := c3
        rw [ti, ks F1] at c3
        exact c3
      refine hn_gr (fk := 6) (List.cons_ne_nil _ _) rfl rfl rfl hm (k6 F1) ?_
      refine ⟨51100, 537, hs, rfl, by show (0 : Int) ≤ (357 : Int) + 3 * (i : Int); omega, by show (357 : Int) + 3 * (i : Int) < ((537 : Nat) : Int); omega, ?_⟩
      refine ⟨fun c4 => mj_W.stay (mj_R_mo _ _) _ (P96 ⟨c2, c3, by
        have c4 : M1.1 s ((357 : Int) + 3 * (i : Int)).toNat ≠ 12 := c4
        rw [ti, ks F1] at c4
        exact c4⟩ _ _), fun c4 => mj_W.stay (mj_R_mo _ _) _ (P51 (Or.inr (by
        have c4 : ¬ M1.1 s ((357 : Int) + 3 * (i : Int)).toNat ≠ 12 := c4
        rw [ti, ks F1] at c4
        omega)) _ _)⟩
    · have c2 : M.1 s (356 + 1 + 3 * i) = 10 := by
        have c2 : ¬ M1.1 s ((357 : Int) + 3 * (i : Int)).toNat ≠ 10 := c2
        rw [ti, ks F1] at c2
        omega
      have h1 : 1 ≤ n0 ∧ n2 = n0 := by omega
      refine hn_gr (fk := 58) (List.cons_ne_nil _ _) rfl rfl rfl hm (k58 F1) ?_
      refine Or.inl ⟨⟨by show (-2147483648 : Int) ≤ (n0 : Int) - 1; omega, by show (n0 : Int) - 1 < (2147483648 : Int); omega⟩, ?_⟩
      refine hn_gr (fk := 58) (List.cons_ne_nil _ _) rfl rfl rfl hm (k58 F1) ?_
      refine Or.inl ⟨⟨by show (-2147483648 : Int) ≤ (n0 : Int) - 1; omega, by show (n0 : Int) - 1 < (2147483648 : Int); omega⟩, ?_⟩
      refine Or.inr ⟨69102, 45, hvs, rfl, by show (0 : Int) ≤ (n0 : Int) - 1; omega, by show (n0 : Int) - 1 < ((45 : Nat) : Int); omega, ?_⟩
      exact ⟨fun _ => mj_W.stay (mj_R_mo _ _) 29 (P37 0 _ _ (Or.inl rfl) h1.1 h1.2), fun _ => mj_W.stay (mj_R_mo _ _) 28 (P37 1 _ _ (Or.inr rfl) h1.1 h1.2)⟩
set_option maxRecDepth 100000 in
theorem r_isSaid {d m s : Nat} {k : Int} {G : mj_G} {M : mj_M} {Q : mj_P} (hm : G m = (1012, 0)) (hs : G s = (51100, 537)) (h6 : M.2.2 m 6 = some s) (hI : ab_Inv G M) (hF : hn_F M s 356) (hk0 : 0 ≤ k ∧ k ≤ 7)
    (hQ : ∀ z M', ab_Inv G M' → ab_frm hn_WV G M M' → (z = 0 ∨ z = 1) → Q (some (.inl z)) G M') : mj_R mj_tab (d + 3) 202 [.inr (.inr (some m)), .inl k] G M Q := by
  obtain ⟨vs, h58, hvs⟩ := hn_rf (k := 58) (q := (69102, 45)) hI hm rfl (by decide) (by decide) (by decide) (fun e => absurd e (by decide))
  obtain ⟨c, N, h1, h2⟩ := hF
  have hc : (c : Int) ≤ 45 := by
    have := (hI.1 s 356).2
    rw [hs, h1] at this
    exact this
  refine ⟨Nat.le_of_ble_eq_true rfl, mj_W.run (mj_R_mo _ _) 4 ?_⟩
  exact r_isSaid_w (d := d) hm hs hvs hk0 h6 h58 h1 (by omega) h2 hQ c 0 0 M none _ _ (by omega) rfl hI ab_frm.rf
