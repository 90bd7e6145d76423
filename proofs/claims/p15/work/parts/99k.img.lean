/-! ===== the reference's image and restore keep the loop's invariant ===== -/
theorem hn_F.mv {M M' : mj_M} {a a' p p' : Nat} (h : hn_F M a p) (hc : M.1 a p ≤ 45) (e : ∀ j, j ≤ 135 → M'.1 a' (p' + j) = M.1 a (p + j)) : hn_F M' a' p' := by
  obtain ⟨c, n, h1, h2⟩ := h
  refine ⟨c, n, (e 0 (by decide)).trans h1, h2.cg (fun j hj => ?_)⟩
  have q := e (1 + 3 * j) (by omega)
  rw [← Nat.add_assoc, ← Nat.add_assoc] at q
  exact q.symm
theorem lw_45 {G : mj_G} {M : mj_M} {s : Nat} (hI : ab_Inv G M) (hs : G s = (51100, 537)) : M.1 s 356 ≤ 45 := by
  have := (hI.1 s 356).2
  rw [hs] at this
  exact this
theorem lw_45k {G : mj_G} {M : mj_M} {kp k : Nat} (hI : ab_Inv G M) (hk : G kp = (70100, 1076)) (h : k ≤ 1) : M.1 kp (538 * k + 356) ≤ 45 := by
  have := (hI.1 kp (538 * k + 356)).2
  rw [hk] at this
  have this : M.1 kp (538 * k + 356) ≤ (ab_rg 70100 (538 * k + 356)).2 := this
  rw [hn_rk h (by decide)] at this
  exact this
theorem lc_X12_image {d x m tp s kp ik : Nat} {z1 : Int} {G : mj_G} {M : mj_M} {Q : mj_P} (hV : lw_V G M x m tp s kp) (hik : G ik = (72102, 2)) (h61 : M.2.2 m 61 = some ik) (hQ : ∀ z M', lw_V G M' x m tp s kp → (M'.1 tp 1 = M.1 tp 1 ∧ M'.1 m 2 = M.1 m 2) → ab_frm hn_WI G M M' → ((¬ (0 ≤ z1 ∧ z1 ≤ 1) ∧ z = 0 ∧ ∀ q, M'.1 ik q = M.1 ik q) ∨ (0 ≤ z1 ∧ z1 ≤ 1 ∧ z = 1 ∧ M'.1 ik z1.toNat = 1 ∧ ∀ q, q ≠ z1.toNat → M'.1 ik q = M.1 ik q)) → Q (some (.inl z)) G M') : mj_R mj_tab (d + 31) 195 [.inr (.inr (some m)), .inl z1] G M Q := by
  obtain ⟨hI, ⟨g1, g2, g3, g4, g5⟩, ⟨r1, r2, r3⟩, f1, f2, f3⟩ := id hV
  refine r_image (d := d + 29) g2 g4 g5 hik r2 r3 h61 hI (fun c0 => ?_) (fun k M' ek hk i e22 f h1 h2 k1 k2 => ?_)
  · have f0 : ab_frm [(1012, 0, 0)] G M (mj_p0 M m 0 0) := hn_f0 ab_frm.rf ⟨(1012, 0, 0), by decide, by rw [g2], by decide, by decide⟩
    exact hQ 0 _ (hV.fr (hI.p0 (by rw [g2]; exact ⟨by decide, by decide⟩)) f0 (by decide)) (hV.sz f0 (by decide)) (hn_up f0 (by decide)) (Or.inl ⟨c0, rfl, fun q => hn_n (Or.inl (hn_ne hik g2 (by decide)))⟩)
  · refine hQ 1 M' ⟨i, ⟨g1, g2, g3, g4, g5⟩, ⟨by rw [e22]; exact r1, by rw [e22]; exact r2, by rw [e22]; exact r3⟩, f1.cg (fun q _ => (f s q (by rw [g4]; exact hn_nt (by decide))).1), ?_, ?_⟩ (hV.sz f (by decide)) f (Or.inr ⟨by omega, by omega, rfl, by rw [ek]; exact k1, fun q hq => k2 q (fun e => hq (by rw [ek, e]; rfl))⟩)
    · by_cases e : k = 0
      · subst e
        exact f1.mv (lw_45 hI g4) (fun j hj => by have := h1 (356 + j) (by omega); rw [Nat.mul_zero, Nat.zero_add] at this; exact this)
      · exact f2.mv (lw_45k (k := 0) hI g5 (by decide)) (fun j hj => h2 (356 + j) (by omega))
    · by_cases e : k = 0
      · subst e
        exact f3.mv (lw_45k (k := 1) hI g5 (by decide)) (fun j hj => h2 (894 + j) (by omega))
      · have e1 : k = 1 := by omega
        subst e1
        exact f1.mv (lw_45 hI g4) (fun j hj => by have := h1 (356 + j) (by omega); rw [show 538 * 1 + (356 + j) = 894 + j by omega] at this; exact this)
theorem lc_X12_restore {d x m tp s kp ik : Nat} {z1 : Int} {G : mj_G} {M : mj_M} {Q : mj_P} (hV : lw_V G M x m tp s kp) (hik : G ik = (72102, 2)) (h61 : M.2.2 m 61 = some ik) (hQ : ∀ z M', lw_V G M' x m tp s kp → (M'.1 tp 1 = M.1 tp 1 ∧ M'.1 m 2 = M.1 m 2) → ab_frm hn_WR G M M' → (((¬ (0 ≤ z1 ∧ z1 ≤ 1) ∨ M.1 ik z1.toNat = 0) ∧ z = 0) ∨ (0 ≤ z1 ∧ z1 ≤ 1 ∧ M.1 ik z1.toNat ≠ 0 ∧ z = 1)) → Q (some (.inl z)) G M') : mj_R mj_tab (d + 31) 235 [.inr (.inr (some m)), .inl z1] G M Q := by
  obtain ⟨hI, ⟨g1, g2, g3, g4, g5⟩, ⟨r1, r2, r3⟩, f1, f2, f3⟩ := id hV
  refine r_restore (d := d + 29) g2 g4 g5 hik r2 r3 h61 hI (fun c0 => ?_) (fun k M' ek hk k0 i e22 f h1 => ?_)
  · have f0 : ab_frm [(1012, 0, 0)] G M (mj_p0 M m 0 0) := hn_f0 ab_frm.rf ⟨(1012, 0, 0), by decide, by rw [g2], by decide, by decide⟩
    exact hQ 0 _ (hV.fr (hI.p0 (by rw [g2]; exact ⟨by decide, by decide⟩)) f0 (by decide)) (hV.sz f0 (by decide)) (hn_up f0 (by decide)) (Or.inl ⟨c0.imp id (fun ⟨k, e1, e2, e3⟩ => by rw [e1]; exact e3), rfl⟩)
  · have hF : hn_F M' s 356 := by
      by_cases e : k = 0
      · subst e
        exact f2.mv (lw_45k (k := 0) hI g5 (by decide)) (fun j hj => by have := h1 (356 + j) (by omega); rw [Nat.mul_zero, Nat.zero_add] at this; exact this)
      · have e1 : k = 1 := by omega
        subst e1
        exact f3.mv (lw_45k (k := 1) hI g5 (by decide)) (fun j hj => by have := h1 (356 + j) (by omega); rw [show 538 * 1 + (356 + j) = 894 + j by omega] at this; exact this)
    exact hQ 1 M' (hV.fs i f (by decide) hF).1 (hV.sz f (by decide)) f (Or.inr ⟨by omega, by omega, by rw [ek]; exact k0, rfl⟩)
