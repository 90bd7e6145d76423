theorem r_isMonth {d : Nat} {z : Int} {G : mj_G} {M : mj_M} {Q : mj_P} (h1 : 0 ≤ z ∧ z < 12 → Q (some (.inl 1)) G M) (h2 : ¬ (0 ≤ z ∧ z < 12) → Q (some (.inl 0)) G M) : mj_R mj_tab (d + 1) n_X11_isMonth [.inl z] G M Q := by
  refine ⟨Nat.le_refl 1, mj_W.run (mj_R_mo _ _) 20 ?_⟩
  refine And.intro (fun c1 => ?_) (fun c1 => ?_)
  · exact ⟨rfl, fun _ => Or.inl rfl, h2 (fun q => absurd c1 (Int.not_lt.mpr q.1))⟩
  · refine And.intro (fun c2 => ?_) (fun c2 => ?_)
    · exact ⟨rfl, fun _ => Or.inl rfl, h2 (fun q => absurd q.2 (Int.not_lt.mpr c2))⟩
    · exact ⟨rfl, fun _ => Or.inr rfl, h1 ⟨Int.not_lt.mp c1, Int.not_le.mp c2⟩⟩
theorem r_end {d x tp tx nx tt nt : Nat} {n : Int} {G : mj_G} {M : mj_M} {Q : mj_P} (hx : G x = (tx, nx)) (htx : tx % 1000 = 11) (h0 : M.2.2 x 0 = some tp) (hp : G tp = (tt, nt)) (htt : tt % 1000 = 8) (hw : tt < 900000)
    (h1 : n < 0 ∨ M.1 tp 1 < n → Q (some (.inl 0)) G M) (h2 : ¬ (n < 0 ∨ M.1 tp 1 < n) → Q (some (.inl 1)) G (mj_p0 M tp 1 n)) : mj_R mj_tab (d + 1) n_X11_end [.inr (.inr (some x)), .inl n] G M Q := by
  refine ⟨Nat.le_refl 2, mj_W.run (mj_R_mo _ _) 20 ?_⟩
  refine And.intro (fun c1 => ?_) (fun c1 => ?_)
  · exact ⟨rfl, fun _ => Or.inl rfl, h1 (Or.inl c1)⟩
  · refine And.intro (List.cons_ne_nil _ _) ⟨tx, nx, hx, htx, fun b hb => ?_, fun hb => ?_⟩
    · cases h0.symm.trans hb
      refine And.intro (List.cons_ne_nil _ _) ⟨tt, nt, hp, htt, ?_⟩
      refine And.intro (fun c2 => ?_) (fun c2 => ?_)
      · refine And.intro (List.cons_ne_nil _ _) ⟨tx, nx, hx, htx, fun b hb => ?_, fun hb => ?_⟩
        · cases h0.symm.trans hb
          refine And.intro (List.cons_ne_nil _ _) ⟨tt, nt, hp, htt, hw, fun q => ?_, ?_⟩
          · cases q
          · exact ⟨rfl, fun _ => Or.inr rfl, h2 (fun q => q.elim c1 (Int.not_lt.mpr c2))⟩
        · cases h0.symm.trans hb
      · exact ⟨rfl, fun _ => Or.inl rfl, h1 (Or.inr (Int.not_le.mp c2))⟩
    · cases h0.symm.trans hb
