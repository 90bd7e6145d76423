/-! ===== the PLAIN with its bids, and what can be undone, at the loop's head (over V3.2) ===== -/
theorem sz_lq_lt : ∀ e ∈ sz_lq, e.1 < 361 ∧ e.2.2 ≤ 4096 := by decide +kernel
def sz_q (i k : Nat) : Bool := sz_lq.any (fun e => Nat.beq e.1 i && (Nat.ble e.2.1 k && Nat.blt k e.2.2))
theorem sz_q_s {w : sx_w} {h : sx_H} {G : mj_G} {M : mj_M} {i k : Nat} (hR : sx_RH w h G M) (k2 : sz_hk h = true) (hq : sz_q i k = true) : (sz_M w h G M).1 (w.2.2.2 i) k = 0 := by
  have n1 := (sz_hk_s k2).1
  obtain ⟨e, he, q⟩ := List.any_eq_true.mp hq
  rw [Bool.and_eq_true, Bool.and_eq_true] at q
  obtain ⟨q1, q2, q3⟩ := q
  obtain rfl := Nat.eq_of_beq_eq_true q1
  have q2 := Nat.le_of_ble_eq_true q2
  have q3 : k < e.2.2 := Nat.le_of_ble_eq_true q3
  have l := sz_lq_lt e he
  exact sz_izr_s ((sz_hz_s k2).1 e he) hR (by omega) q2 q3 (by omega)
theorem lq_ct_0 : lq_ct (fun _ => 0) 96 = 0 := by decide +kernel
theorem sz_head4 {w : sx_w} {h : sx_H} {G : mj_G} {M : mj_M} (hR : sx_RH w h G M) (k2 : sz_hk h = true) : rv_r4 ((sz_M w h G M).1 (w.2.2.2 338)) 0 := by
  have n1 := (sz_hk_s k2).1
  obtain ⟨ya, yb, yc, y3, y4⟩ := sz_hy_s k2
  have s3 : (sz_M w h G M).1 (w.2.2.2 338) 3 = 3 := sz_i3_s y4 hR (by omega) (by decide) (by
    have g := sz_tg_s (sz_hk_s k2).2.2.1.2.2.2.1 hR (by omega)
    rw [sz_G_in (by omega)] at g
    rw [g]; decide)
  have zs : ∀ k, k < 88 → k ≠ 3 → (sz_M w h G M).1 (w.2.2.2 338) k = 0 := by
    intro k hk h3
    have key : ∀ k : Fin 88, k.val ≠ 3 → sz_q 338 k.val = true := by decide +kernel
    exact sz_q_s hR k2 (key ⟨k, hk⟩ h3)
  refine ⟨by rw [zs 0 (by decide) (by decide)]; decide, by rw [Nat.zero_add, zs 1 (by decide) (by decide)]; decide, by rw [Nat.zero_add, zs 2 (by decide) (by decide)]; decide, by rw [Nat.zero_add, s3]; decide, fun t v ht hv => ?_, fun v hv => ?_⟩
  · rw [Nat.zero_add, zs _ (by omega) (by omega)]; exact ⟨by decide, by decide, Or.inr rfl⟩
  · rw [Nat.zero_add, zs _ (by omega) (by omega)]; decide
theorem sz_head6 {w : sx_w} {h : sx_H} {G : mj_G} {M : mj_M} (hR : sx_RH w h G M) (k2 : sz_hk h = true) : rv_G6 ((sz_M w h G M).1 (w.2.2.2 338)) 0 w.2.2.2 30 (sz_M w h G M) ∧ rv_r6 ((sz_M w h G M).1 (w.2.2.2 338)) 0 ∧ lq_U (sz_G w h G) (sz_M w h G M) (w.2.2.2 26) (w.2.2.2 336) (w.2.2.2 338) w.2.2.2 := by
  have n1 := (sz_hk_s k2).1
  obtain ⟨ya, yb, -, -, -⟩ := sz_hy_s k2
  have tg : ∀ i t n, (i, t, n) ∈ sz_lt → sz_G w h G (w.2.2.2 i) = (t, n) := fun i t n he => sz_tg_s (yb (i, t, n) he) hR (by have := sz_lt_lt _ he; omega)
  have rq : ∀ i k j, (i, k, j) ∈ sz_lr → (sz_M w h G M).2.2 (w.2.2.2 i) k = some (w.2.2.2 j) := fun i k j he => sz_rq_s (ya (i, k, j) he) hR (by have := (sz_lr_lt _ he).1; omega) (sz_lr_lt _ he).2
  have zs : ∀ k, 88 ≤ k → k < 184 → (sz_M w h G M).1 (w.2.2.2 338) k = 0 := by
    intro k h1 h2
    have key : ∀ k : Fin 96, sz_q 338 (88 + k.val) = true := by decide +kernel
    have := sz_q_s hR k2 (key ⟨k - 88, by omega⟩)
    rw [show 88 + (k - 88) = k by omega] at this; exact this
  have zb : ∀ t v, t < 8 → v < 12 → (sz_M w h G M).1 (w.2.2.2 (30 + 12 + t)) v = 0 := by
    intro t v ht hv
    have key : ∀ (t : Fin 8) (v : Fin 12), sz_q (30 + 12 + t.val) v.val = true := by decide +kernel
    exact sz_q_s hR k2 (key ⟨t, ht⟩ ⟨v, hv⟩)
  have ct : lq_ct (fun i => (sz_M w h G M).1 (w.2.2.2 338) (88 + i)) 96 = 0 := (lq_ct_cg (g := fun _ => 0) 96 (fun i hi => zs (88 + i) (by omega) (by omega))).trans lq_ct_0
  have ct0 : lq_ct (fun i => (sz_M w h G M).1 (w.2.2.2 338) (0 + (88 + i))) 96 = 0 := (lq_ct_cg (g := fun _ => 0) 96 (fun i hi => zs (0 + (88 + i)) (by omega) (by omega))).trans lq_ct_0
  refine ⟨⟨(sz_head3 hR k2).2.2.2, fun t v ht hv => ?_, ?_⟩, ⟨sz_head4 hR k2, fun t v ht hv => ?_, by rw [ct0]; decide⟩, ?_⟩
  · rw [zs _ (by omega) (by omega), zb t v ht hv]
  · rw [ct0]; exact sz_q_s hR k2 (by decide +kernel)
  · rw [zs _ (by omega) (by omega)]; exact ⟨by decide, by decide, Or.inr rfl⟩
  · refine ⟨⟨tg _ _ _ (by decide +kernel), tg _ _ _ (by decide +kernel), tg _ _ _ (by decide +kernel), tg _ _ _ (by decide +kernel), tg _ _ _ (by decide +kernel)⟩, ⟨rq _ _ _ (by decide +kernel), rq _ _ _ (by decide +kernel), rq _ _ _ (by decide +kernel), rq _ _ _ (by decide +kernel), rq _ _ _ (by decide +kernel)⟩, 0, sz_q_s hR k2 (by decide +kernel), lq_Uz.no (by rw [ct]; decide), sz_q_s hR k2 (by decide +kernel), fun i hi => absurd hi (Nat.not_lt_zero i)⟩
