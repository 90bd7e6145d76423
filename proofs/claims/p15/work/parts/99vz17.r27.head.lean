/-! ===== at the loop's head: the tapes, the words, the rows ===== -/
theorem sz_ref {w : sx_w} {h : sx_H} {G : mj_G} {M : mj_M} {i k j : Nat} (hR : sx_RH w h G M) (hi : i < h.1) (h4 : k < 4096) (e : sx_g (sx_g h.2 i).2.2.2.2 k = some j) : M.2.2 (w.2.2.2 i) k = some (w.2.2.2 j) := by
  have r := ((hR.2.2.1 i hi).2.2 k h4).2.2
  rw [e] at r
  exact r.2
theorem sz_head2 {w : sx_w} {h : sx_H} {G : mj_G} {M : mj_M} (hR : sx_RH w h G M) (k2 : sz_hk h = true) : lp_6 (sz_G w h G) (sz_M w h G M) (w.2.2.2 27) (w.2.2.2 336) (w.2.2.2 28) (w.2.2.2 337) ∧ (sz_M w h G M).1 (w.2.2.2 28) = (sz_M w h G M).1 (w.2.2.2 337) := by
  have n1 := (sz_hk_s k2).1
  obtain ⟨d1, wt, t1, t2, r1, r2, z1, z2⟩ := sz_hx_s k2
  have cell : ∀ a t n, sz_G w h G a = (t, n) → t ≠ 0 → ∃ i, i < h.1 ∧ w.2.2.2 i = a ∧ (sx_g h.2 i).1 = t := by
    intro a t n hG ht
    by_cases c : ∃ i, i < h.1 ∧ w.2.2.2 i = a
    · obtain ⟨i, hi, rfl⟩ := c
      rw [sz_G_in hi, (hR.2.2.1 i hi).1] at hG
      exact ⟨i, hi, rfl, congrArg Prod.fst hG⟩
    · rw [sz_G_no c] at hG
      exact absurd (congrArg Prod.fst hG).symm ht
  refine ⟨⟨sz_tg_s t1 hR (by omega), sz_tg_s t2 hR (by omega), sz_rq_s r1 hR (by omega) (by decide), sz_rq_s r2 hR (by omega) (by decide), fun a ha k hk => ?_, fun a ha s t hs ht e => ?_⟩, funext fun k => ?_⟩
  · obtain ⟨i, hi, rfl, ht⟩ := cell a _ _ ha (by decide)
    obtain ⟨rfl, hp⟩ := (sz_d1_s (d1 i (by omega))).2.2 ht
    have hk1 : k + 1 < h.1 := by omega
    refine ⟨w.2.2.2 (1 + k), (show M.2.2 (w.2.2.2 25) k = some (w.2.2.2 (1 + k)) from sz_ref hR hi (by omega) (hp k hk)), ?_⟩
    rw [Nat.add_comm 1 k]
    exact sz_tg_s (wt k hk) hR hk1
  · have key : ∃ i, i < h.1 ∧ w.2.2.2 i = a ∧ ((sx_g h.2 i).1 = 25104 ∨ (sx_g h.2 i).1 = 27104) := by
      rcases ha with ha | ha
      · obtain ⟨i, hi, e1, e2⟩ := cell a _ _ ha (by decide)
        exact ⟨i, hi, e1, Or.inl e2⟩
      · obtain ⟨i, hi, e1, e2⟩ := cell a _ _ ha (by decide)
        exact ⟨i, hi, e1, Or.inr e2⟩
    obtain ⟨i, hi, rfl, ht2⟩ := key
    have hp := (sz_d1_s (d1 i (by omega))).2.1 ht2
    have e : M.2.2 (w.2.2.2 i) s = M.2.2 (w.2.2.2 i) t := e
    have q1 := sz_ref hR hi (show s < 4096 by omega) (hp s hs)
    have q2 := sz_ref hR hi (show t < 4096 by omega) (hp t ht)
    have b1 := ((hR.2.2.1 i hi).2.2 s (by omega)).2.2
    have b2 := ((hR.2.2.1 i hi).2.2 t (by omega)).2.2
    rw [hp s hs] at b1
    rw [hp t ht] at b2
    rw [q1, q2] at e
    have := hR.2.2.2 (i + 1 + s) (i + 1 + t) (by have := b1.1; have := hR.1; omega) (by have := b2.1; have := hR.1; omega) (Option.some.inj e)
    omega
  · have gg : ∀ i t, i < h.1 → sz_tg h i t 940 = true → 100 ≤ t % 1000 → sz_iz h i 940 = true → (sz_M w h G M).1 (w.2.2.2 i) k = 0 := by
      intro i t hi ht hm hz
      rcases Nat.lt_or_ge k 940 with q | q
      · exact sz_iz_s hz hR hi q (by omega)
      · refine sz_M_no (fun c => ?_)
        have g := sz_tg_s ht hR hi
        rw [sz_G_in hi] at g
        rw [g] at c
        have c2 := c.2
        rw [show sz_bd (t, 940).1 (t, 940).2 = 940 from sz_bd_a hm] at c2
        omega
    rw [gg 28 38101 (by omega) t1 (by decide) z1, gg 337 50101 (by omega) t2 (by decide) z2]
