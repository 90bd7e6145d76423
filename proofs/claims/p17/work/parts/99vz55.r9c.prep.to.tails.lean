section
/-! ===== the cheapest letting: the class, prepare (laid by a program) ===== -/
theorem cs_most_9 {H : Nat → Int} (h : rv_r4 H 0) {m : Nat} (hm : m < 12) : ∀ n, n ≤ 8 → cs_most H m n ≤ 999
  | 0, _ => by show (0 : Int) ≤ 999; decide
  | n + 1, hn => by
    have h3 := cs_most_9 h hm n (by omega)
    have h4 := cs_gain_9 h (k := n) (m := m) (by omega) hm
    show max (cs_most H m n) (cs_gain H n m) ≤ 999
    omega
abbrev cq_ne (w : Nat → Nat) (a : Nat) : Prop := ∀ i, (i = 125 ∨ i = 127 ∨ i = 128 ∨ (130 ≤ i ∧ i ≤ 132) ∨ (134 ≤ i ∧ i ≤ 137)) → a ≠ w i
def cq_C (w : Nat → Nat) (M0 : mj_M) (t5 t6 : Int) (BR LA : Nat → Int) (GN RS : Nat → Nat → Int) (RB : Nat → Int) (M : mj_M) : Prop := M.2 = M0.2 ∧ (∀ a, cq_ne w a → M.1 a = M0.1 a) ∧ (∀ k, k ≠ 5 → k ≠ 6 → M.1 (w 125) k = M0.1 (w 125) k) ∧ M.1 (w 125) 5 = t5 ∧ M.1 (w 125) 6 = t6 ∧ (∀ k, k < 3 → M.1 (w 127) k = BR k) ∧ (∀ k, k < 3 → M.1 (w 128) k = LA k) ∧ (∀ t k, t < 3 → k < 12 → M.1 (w (130 + t)) k = GN t k) ∧ (∀ t k, t < 3 → k < 13 → M.1 (w (134 + t)) k = RS t k) ∧ (∀ k, k < 13 → M.1 (w 137) k = RB k)
section CQ
variable {G : mj_G} {M M0 : mj_M} {w : Nat → Nat} {t5 t6 : Int} {BR LA RB : Nat → Int} {GN RS : Nat → Nat → Int} {v z : Int} {j k a b i t tg n : Nat}
theorem cq_C.re : cq_C w M (M.1 (w 125) 5) (M.1 (w 125) 6) (M.1 (w 127)) (M.1 (w 128)) (fun t => M.1 (w (130 + t))) (fun t => M.1 (w (134 + t))) (M.1 (w 137)) M := ⟨rfl, fun _ _ => rfl, fun _ _ _ => rfl, rfl, rfl, fun _ _ => rfl, fun _ _ => rfl, fun _ _ _ _ => rfl, fun _ _ _ _ => rfl, fun _ _ => rfl⟩
theorem cq_C.r (h : cq_C w M0 t5 t6 BR LA GN RS RB M) (e : M0.2.2 a k = some b) : M.2.2 a k = some b := by rw [h.1]; exact e
theorem cq_C.io (h : cq_C w M0 t5 t6 BR LA GN RS RB M) (n : cq_ne w a) (e : M0.1 a k = z) : M.1 a k = z := by rw [h.2.1 a n]; exact e
theorem cp_GA.tge (h : cp_GA G w) (hi : i = 125 ∨ i = 127 ∨ i = 128 ∨ (130 ≤ i ∧ i ≤ 132) ∨ (134 ≤ i ∧ i ≤ 137)) (ha : G a = (tg, n)) (e : tg ≠ 1001 ∧ tg ≠ 3100 ∧ tg ≠ 4100 ∧ tg ≠ 6100 ∧ tg ≠ 8100 ∧ tg ≠ 9100) : a ≠ w i := by
  rcases hi with z | z | z | z | z
  · subst z; exact hn_ne ha h.g125 e.1
  · subst z; exact hn_ne ha h.g127 e.2.1
  · subst z; exact hn_ne ha h.g128 e.2.2.1
  · have g := h.w130 (k := i - 130) (by omega)
    rw [show 130 + (i - 130) = i by omega] at g
    exact hn_ne ha g e.2.2.2.1
  · by_cases z2 : i = 137
    · subst z2; exact hn_ne ha h.g137 e.2.2.2.2.2
    · have g := h.w134 (k := i - 134) (by omega)
      rw [show 134 + (i - 134) = i by omega] at g
      exact hn_ne ha g e.2.2.2.2.1
theorem cp_GA.qn (h : cp_GA G w) (ha : G a = (tg, n)) (e : tg ≠ 1001 ∧ tg ≠ 3100 ∧ tg ≠ 4100 ∧ tg ≠ 6100 ∧ tg ≠ 8100 ∧ tg ≠ 9100) : cq_ne w a := fun i hi => h.tge hi ha e
theorem cq_up2 {F : Nat → Nat → Int} {c N : Nat} (inj : ∀ t', t' < 3 → t' ≠ t → w (c + t') ≠ w (c + t)) (h : ∀ t k, t < 3 → k < N → M.1 (w (c + t)) k = F t k) : ∀ t' k, t' < 3 → k < N → (mj_p0 M (w (c + t)) j v).1 (w (c + t')) k = rv_up2 F t j v t' k := fun t' k ht hk => by
  by_cases e : t' = t
  · subst e
    by_cases e2 : k = j
    · subst e2; rw [rv_up2_s]; exact hn_s
    · rw [rv_up2_n e2]; exact (hn_n (Or.inr e2)).trans (h t' k ht hk)
  · rw [rv_up2_o e]; exact (hn_n (Or.inl (inj t' ht e))).trans (h t' k ht hk)
theorem cq_C.h5 (h : cq_C w M0 t5 t6 BR LA GN RS RB M) (ga : cp_GA G w) : cq_C w M0 v t6 BR LA GN RS RB (mj_p0 M (w 125) 5 v) :=
  ⟨h.1, fun a n => (wz_c (n 125 (by omega))).trans (h.2.1 a n), fun k h5 h6 => (hn_n (Or.inr h5)).trans (h.2.2.1 k h5 h6), hn_s, (hn_n (Or.inr (by decide))).trans h.2.2.2.2.1, fun k hk => (hn_n (Or.inl (ga.ne (by omega) (by omega) (by omega)))).trans (h.2.2.2.2.2.1 k hk), fun k hk => (hn_n (Or.inl (ga.ne (by omega) (by omega) (by omega)))).trans (h.2.2.2.2.2.2.1 k hk), fun t2 k h1 h2 => (hn_n (Or.inl (ga.ne (by omega) (by omega) (by omega)))).trans (h.2.2.2.2.2.2.2.1 t2 k h1 h2), fun t2 k h1 h2 => (hn_n (Or.inl (ga.ne (by omega) (by omega) (by omega)))).trans (h.2.2.2.2.2.2.2.2.1 t2 k h1 h2), fun k hk => (hn_n (Or.inl (ga.ne (by omega) (by omega) (by omega)))).trans (h.2.2.2.2.2.2.2.2.2 k hk)⟩
theorem cq_C.h6 (h : cq_C w M0 t5 t6 BR LA GN RS RB M) (ga : cp_GA G w) : cq_C w M0 t5 v BR LA GN RS RB (mj_p0 M (w 125) 6 v) :=
  ⟨h.1, fun a n => (wz_c (n 125 (by omega))).trans (h.2.1 a n), fun k h5 h6 => (hn_n (Or.inr h6)).trans (h.2.2.1 k h5 h6), (hn_n (Or.inr (by decide))).trans h.2.2.2.1, hn_s, fun k hk => (hn_n (Or.inl (ga.ne (by omega) (by omega) (by omega)))).trans (h.2.2.2.2.2.1 k hk), fun k hk => (hn_n (Or.inl (ga.ne (by omega) (by omega) (by omega)))).trans (h.2.2.2.2.2.2.1 k hk), fun t2 k h1 h2 => (hn_n (Or.inl (ga.ne (by omega) (by omega) (by omega)))).trans (h.2.2.2.2.2.2.2.1 t2 k h1 h2), fun t2 k h1 h2 => (hn_n (Or.inl (ga.ne (by omega) (by omega) (by omega)))).trans (h.2.2.2.2.2.2.2.2.1 t2 k h1 h2), fun k hk => (hn_n (Or.inl (ga.ne (by omega) (by omega) (by omega)))).trans (h.2.2.2.2.2.2.2.2.2 k hk)⟩
theorem cq_C.h127 (h : cq_C w M0 t5 t6 BR LA GN RS RB M) (ga : cp_GA G w) : cq_C w M0 t5 t6 (rv_up BR j v) LA GN RS RB (mj_p0 M (w 127) j v) :=
  ⟨h.1, fun a n => (wz_c (n 127 (by omega))).trans (h.2.1 a n), fun k h5 h6 => (hn_n (Or.inl (ga.ne (by omega) (by omega) (by omega)))).trans (h.2.2.1 k h5 h6), (hn_n (Or.inl (ga.ne (by omega) (by omega) (by omega)))).trans h.2.2.2.1, (hn_n (Or.inl (ga.ne (by omega) (by omega) (by omega)))).trans h.2.2.2.2.1, cp_up h.2.2.2.2.2.1, fun k hk => (hn_n (Or.inl (ga.ne (by omega) (by omega) (by omega)))).trans (h.2.2.2.2.2.2.1 k hk), fun t2 k h1 h2 => (hn_n (Or.inl (ga.ne (by omega) (by omega) (by omega)))).trans (h.2.2.2.2.2.2.2.1 t2 k h1 h2), fun t2 k h1 h2 => (hn_n (Or.inl (ga.ne (by omega) (by omega) (by omega)))).trans (h.2.2.2.2.2.2.2.2.1 t2 k h1 h2), fun k hk => (hn_n (Or.inl (ga.ne (by omega) (by omega) (by omega)))).trans (h.2.2.2.2.2.2.2.2.2 k hk)⟩
theorem cq_C.h128 (h : cq_C w M0 t5 t6 BR LA GN RS RB M) (ga : cp_GA G w) : cq_C w M0 t5 t6 BR (rv_up LA j v) GN RS RB (mj_p0 M (w 128) j v) :=
  ⟨h.1, fun a n => (wz_c (n 128 (by omega))).trans (h.2.1 a n), fun k h5 h6 => (hn_n (Or.inl (ga.ne (by omega) (by omega) (by omega)))).trans (h.2.2.1 k h5 h6), (hn_n (Or.inl (ga.ne (by omega) (by omega) (by omega)))).trans h.2.2.2.1, (hn_n (Or.inl (ga.ne (by omega) (by omega) (by omega)))).trans h.2.2.2.2.1, fun k hk => (hn_n (Or.inl (ga.ne (by omega) (by omega) (by omega)))).trans (h.2.2.2.2.2.1 k hk), cp_up h.2.2.2.2.2.2.1, fun t2 k h1 h2 => (hn_n (Or.inl (ga.ne (by omega) (by omega) (by omega)))).trans (h.2.2.2.2.2.2.2.1 t2 k h1 h2), fun t2 k h1 h2 => (hn_n (Or.inl (ga.ne (by omega) (by omega) (by omega)))).trans (h.2.2.2.2.2.2.2.2.1 t2 k h1 h2), fun k hk => (hn_n (Or.inl (ga.ne (by omega) (by omega) (by omega)))).trans (h.2.2.2.2.2.2.2.2.2 k hk)⟩
theorem cq_C.h130 (h : cq_C w M0 t5 t6 BR LA GN RS RB M) (ga : cp_GA G w) (ht : t < 3) : cq_C w M0 t5 t6 BR LA (rv_up2 GN t j v) RS RB (mj_p0 M (w (130 + t)) j v) :=
  ⟨h.1, fun a n => (wz_c (n (130 + t) (by omega))).trans (h.2.1 a n), fun k h5 h6 => (hn_n (Or.inl (ga.ne (by omega) (by omega) (by omega)))).trans (h.2.2.1 k h5 h6), (hn_n (Or.inl (ga.ne (by omega) (by omega) (by omega)))).trans h.2.2.2.1, (hn_n (Or.inl (ga.ne (by omega) (by omega) (by omega)))).trans h.2.2.2.2.1, fun k hk => (hn_n (Or.inl (ga.ne (by omega) (by omega) (by omega)))).trans (h.2.2.2.2.2.1 k hk), fun k hk => (hn_n (Or.inl (ga.ne (by omega) (by omega) (by omega)))).trans (h.2.2.2.2.2.2.1 k hk), cq_up2 (fun t' h1 h2 => ga.ne (by omega) (by omega) (by omega)) h.2.2.2.2.2.2.2.1, fun t2 k h1 h2 => (hn_n (Or.inl (ga.ne (by omega) (by omega) (by omega)))).trans (h.2.2.2.2.2.2.2.2.1 t2 k h1 h2), fun k hk => (hn_n (Or.inl (ga.ne (by omega) (by omega) (by omega)))).trans (h.2.2.2.2.2.2.2.2.2 k hk)⟩
theorem cq_C.h134 (h : cq_C w M0 t5 t6 BR LA GN RS RB M) (ga : cp_GA G w) (ht : t < 3) : cq_C w M0 t5 t6 BR LA GN (rv_up2 RS t j v) RB (mj_p0 M (w (134 + t)) j v) :=
  ⟨h.1, fun a n => (wz_c (n (134 + t) (by omega))).trans (h.2.1 a n), fun k h5 h6 => (hn_n (Or.inl (ga.ne (by omega) (by omega) (by omega)))).trans (h.2.2.1 k h5 h6), (hn_n (Or.inl (ga.ne (by omega) (by omega) (by omega)))).trans h.2.2.2.1, (hn_n (Or.inl (ga.ne (by omega) (by omega) (by omega)))).trans h.2.2.2.2.1, fun k hk => (hn_n (Or.inl (ga.ne (by omega) (by omega) (by omega)))).trans (h.2.2.2.2.2.1 k hk), fun k hk => (hn_n (Or.inl (ga.ne (by omega) (by omega) (by omega)))).trans (h.2.2.2.2.2.2.1 k hk), fun t2 k h1 h2 => (hn_n (Or.inl (ga.ne (by omega) (by omega) (by omega)))).trans (h.2.2.2.2.2.2.2.1 t2 k h1 h2), cq_up2 (fun t' h1 h2 => ga.ne (by omega) (by omega) (by omega)) h.2.2.2.2.2.2.2.2.1, fun k hk => (hn_n (Or.inl (ga.ne (by omega) (by omega) (by omega)))).trans (h.2.2.2.2.2.2.2.2.2 k hk)⟩
theorem cq_C.h137 (h : cq_C w M0 t5 t6 BR LA GN RS RB M) (ga : cp_GA G w) : cq_C w M0 t5 t6 BR LA GN RS (rv_up RB j v) (mj_p0 M (w 137) j v) :=
  ⟨h.1, fun a n => (wz_c (n 137 (by omega))).trans (h.2.1 a n), fun k h5 h6 => (hn_n (Or.inl (ga.ne (by omega) (by omega) (by omega)))).trans (h.2.2.1 k h5 h6), (hn_n (Or.inl (ga.ne (by omega) (by omega) (by omega)))).trans h.2.2.2.1, (hn_n (Or.inl (ga.ne (by omega) (by omega) (by omega)))).trans h.2.2.2.2.1, fun k hk => (hn_n (Or.inl (ga.ne (by omega) (by omega) (by omega)))).trans (h.2.2.2.2.2.1 k hk), fun k hk => (hn_n (Or.inl (ga.ne (by omega) (by omega) (by omega)))).trans (h.2.2.2.2.2.2.1 k hk), fun t2 k h1 h2 => (hn_n (Or.inl (ga.ne (by omega) (by omega) (by omega)))).trans (h.2.2.2.2.2.2.2.1 t2 k h1 h2), fun t2 k h1 h2 => (hn_n (Or.inl (ga.ne (by omega) (by omega) (by omega)))).trans (h.2.2.2.2.2.2.2.2.1 t2 k h1 h2), cp_up h.2.2.2.2.2.2.2.2.2⟩
end CQ
theorem r_p1 {G : mj_G} {M0 : mj_M} {x s p q : Nat} {w : Nat → Nat} {Q : mj_P} {d : Nat} (ga : cp_GA G w) (gb : cp_BA M0 w) (hA : lq_A G w) (hB : lq_B M0 w x) (hN : lq_N M0 w p q) (hG5 : rv_G6 (M0.1 s) 0 w p M0) (hr : rv_r4 (M0.1 s) 0) (t1 : 1 ≤ M0.1 s 0) (t3 : M0.1 s 0 ≤ 3) : ∀ (n : Nat) (k : Int) (BR LA RB : Nat → Int) (GN RS : Nat → Nat → Int) (M : mj_M) (v3 v4 : Option mj_V) (cb sb : Nat), k + n = M0.1 s 0 → 0 ≤ k → cq_C w M0 (M0.1 s 0) (M0.1 s 1) BR LA GN RS RB M → RB 12 = 0 → (∀ j : Nat, (j : Int) < k → BR j = M0.1 s (10 + 9 * j) ∧ LA j = M0.1 s (8 + 9 * j) ∧ RS j 12 = 0) → (∀ (BR LA RB : Nat → Int) (GN RS : Nat → Nat → Int) (M : mj_M) (v2 v3 v4 : Option mj_V) (cb sb : Nat), cq_C w M0 (M0.1 s 0) (M0.1 s 1) BR LA GN RS RB M → RB 12 = 0 → (∀ j : Nat, (j : Int) < M0.1 s 0 → BR j = M0.1 s (10 + 9 * j) ∧ LA j = M0.1 s (8 + 9 * j) ∧ RS j 12 = 0) → wz (d + 1) mt_X0_prepare.2.2.2.2.1 Q (mt_X0_prepare.2.2.2.2.1.drop 50) [some (.inr (.inr (some (w 125)))), some (.inr (.inr (some (w p)))), v2, v3, v4] [] G M cb sb) → wz (d + 1) mt_X0_prepare.2.2.2.2.1 Q (mt_X0_prepare.2.2.2.2.1.drop 17) [some (.inr (.inr (some (w 125)))), some (.inr (.inr (some (w p)))), some (.inl k), v3, v4] [] G M cb sb := by
  obtain ⟨gpl, gna, gta, gba, gwa, gtr, gbr, itr, ibr, p0, p1, p2, p3, rt, rb⟩ := lq_K hA hB hN.pin.1
  have hG := hG5.1
  have et := cs_te hr
  have b1 := cs_r1 hr
  intro n
  induction n with
  | zero =>
    intro k BR LA RB GN RS M v3 v4 cb sb e k0 hC h12 hI h
    refine w_iln rfl ?_
    refine w_aln rfl ?_
    refine w_gi ga.g125 rfl (by decide) rfl (hC.2.2.2.1) ?_
    refine w_cmge (fun c1 => ?_) (fun c1 => ?_)
    · skip
      exact h BR LA RB GN RS M _ _ _ _ _ hC h12 (fun j hj => hI j (by omega))
    · exfalso; omega
  | succ n ih =>
    intro k BR LA RB GN RS M v3 v4 cb sb e k0 hC h12 hI h
    refine w_iln rfl ?_
    refine w_aln rfl ?_
    refine w_gi ga.g125 rfl (by decide) rfl (hC.2.2.2.1) ?_
    refine w_cmge (fun c1 => ?_) (fun c1 => ?_)
    · exfalso; omega
    · skip
      refine w_aln rfl ?_
      refine w_gr ga.g125 rfl (by decide) rfl (hC.r gb.r125_7) ?_
      refine w_iln rfl ?_
      refine w_aln rfl ?_
      refine w_gr gpl rfl (by decide) rfl (hC.r (p1)) ?_
      refine w_iln rfl ?_
      refine w_aald gta rfl (by show (0 : Int) ≤ k; omega) (by show k < ((8 : Nat) : Int); omega) (hC.r (rt _ (by show k.toNat < 8; omega))) ?_
      refine w_bp ?_
      refine w_iald (v := (M0.1 s (9 * k + 10).toNat)) (gtr _ (by show k.toNat < 8; omega)) rfl (by show (0 : Int) ≤ 6; omega) (by show 6 < ((9 : Nat) : Int); omega) (hC.io (ga.qn (gtr _ (by show k.toNat < 8; omega)) (by decide)) (lq_rT hG (by show k.toNat < 8; omega) (by show (6 : Int).toNat < 9; omega) (by show (9 * k + 10).toNat = 4 + 9 * k.toNat + (6 : Int).toNat; omega))) ?_
      refine w_iast ga.g127 rfl (by decide) (by show (0 : Int) ≤ k; omega) (by show k < ((3 : Nat) : Int); omega) ?_
      have hC2 := hC.h127 (j := k.toNat) (v := (M0.1 s (9 * k + 10).toNat)) ga
      refine w_aln rfl ?_
      refine w_gr ga.g125 rfl (by decide) rfl (hC2.r gb.r125_8) ?_
      refine w_iln rfl ?_
      refine w_aln rfl ?_
      refine w_gr gpl rfl (by decide) rfl (hC2.r (p1)) ?_
      refine w_iln rfl ?_
      refine w_aald gta rfl (by show (0 : Int) ≤ k; omega) (by show k < ((8 : Nat) : Int); omega) (hC2.r (rt _ (by show k.toNat < 8; omega))) ?_
      refine w_ic ?_
      refine w_iald (v := (M0.1 s (9 * k + 8).toNat)) (gtr _ (by show k.toNat < 8; omega)) rfl (by show (0 : Int) ≤ 4; omega) (by show 4 < ((9 : Nat) : Int); omega) (hC2.io (ga.qn (gtr _ (by show k.toNat < 8; omega)) (by decide)) (lq_rT hG (by show k.toNat < 8; omega) (by show (4 : Int).toNat < 9; omega) (by show (9 * k + 8).toNat = 4 + 9 * k.toNat + (4 : Int).toNat; omega))) ?_
      refine w_iast ga.g128 rfl (by decide) (by show (0 : Int) ≤ k; omega) (by show k < ((3 : Nat) : Int); omega) ?_
      have hC3 := hC2.h128 (j := k.toNat) (v := (M0.1 s (9 * k + 8).toNat)) ga
      refine w_aln rfl ?_
      refine w_gr ga.g125 rfl (by decide) rfl (hC3.r gb.r125_10) ?_
      refine w_iln rfl ?_
      refine w_aald ga.g133 rfl (by show (0 : Int) ≤ k; omega) (by show k < ((3 : Nat) : Int); omega) (hC3.r (gb.w134 (by show k.toNat < 3; omega))) ?_
      refine w_bp ?_
      refine w_ic ?_
      refine w_iast (ga.w134 (by omega)) rfl (by decide) (by show (0 : Int) ≤ 12; omega) (by show 12 < ((13 : Nat) : Int); omega) ?_
      have hC4 := hC3.h134 (t := k.toNat) (j := (12 : Int).toNat) (v := 0) ga (by show k.toNat < 3; omega)
      refine w_ii rfl ⟨by show (-2147483648 : Int) ≤ k + 1; omega, by show k + 1 < (2147483648 : Int); omega⟩ ?_
      show wz _ _ _ _ [some (.inr (.inr (some (w 125)))), some (.inr (.inr (some (w p)))), some (.inl (k + 1)), v3, v4] _ _ _ _ _
      refine w_goto ?_
      refine ih (k + 1) _ _ _ _ _ _ _ _ _ _ (by omega) (by omega) hC4 h12 (fun j hj => ?_) h
      by_cases ej : (j : Int) = k
      · rw [show j = k.toNat by omega, rv_up_s, rv_up_s]
        exact ⟨congrArg (M0.1 s) (by omega), congrArg (M0.1 s) (by omega), rv_up2_s⟩
      · obtain ⟨q1, q2, q3⟩ := hI j (by omega)
        exact ⟨(rv_up_n (by omega)).trans q1, (rv_up_n (by omega)).trans q2, (congrFun (rv_up2_o (by omega)) _).trans q3⟩
theorem r_p3 {G : mj_G} {M0 : mj_M} {x s p q : Nat} {w : Nat → Nat} {Q : mj_P} {d : Nat} (ga : cp_GA G w) (gb : cp_BA M0 w) (hA : lq_A G w) (hB : lq_B M0 w x) (hN : lq_N M0 w p q) (hG5 : rv_G6 (M0.1 s) 0 w p M0) (hr : rv_r4 (M0.1 s) 0) (t1 : 1 ≤ M0.1 s 0) (t3 : M0.1 s 0 ≤ 3) {BR LA RB : Nat → Int} {GN RS : Nat → Nat → Int} {mo : Int} (m0 : 0 ≤ mo) (m11 : mo ≤ 11) (hRS : ∀ t : Nat, (t : Int) < M0.1 s 0 → RS t (mo + 1).toNat = cs_all (M0.1 s) t (12 - (mo + 1).toNat) (mo + 1).toNat) : ∀ (n : Nat) (k : Int) (GN2 RS2 : Nat → Nat → Int) (M : mj_M) (cb sb : Nat), k + n = M0.1 s 0 → 0 ≤ k → cq_C w M0 (M0.1 s 0) (M0.1 s 1) BR LA GN2 RS2 RB M → (∀ t : Nat, (t : Int) < k → GN2 t mo.toNat = cs_gain (M0.1 s) t mo.toNat ∧ RS2 t mo.toNat = cs_all (M0.1 s) t (12 - mo.toNat) mo.toNat) ∧ (∀ t j : Nat, (j : Int) ≠ mo → GN2 t j = GN t j ∧ RS2 t j = RS t j) → (∀ (GN2 RS2 : Nat → Nat → Int) (M : mj_M) (v4 : Option mj_V) (cb sb : Nat), cq_C w M0 (M0.1 s 0) (M0.1 s 1) BR LA GN2 RS2 RB M → (∀ t : Nat, (t : Int) < M0.1 s 0 → GN2 t mo.toNat = cs_gain (M0.1 s) t mo.toNat ∧ RS2 t mo.toNat = cs_all (M0.1 s) t (12 - mo.toNat) mo.toNat) ∧ (∀ t j : Nat, (j : Int) ≠ mo → GN2 t j = GN t j ∧ RS2 t j = RS t j) → wz (d + 1) mt_X0_prepare.2.2.2.2.1 Q (mt_X0_prepare.2.2.2.2.1.drop 104) [some (.inr (.inr (some (w 125)))), some (.inr (.inr (some (w p)))), some (.inl mo), some (.inl (cs_most (M0.1 s) mo.toNat (cs_t (M0.1 s)))), v4] [] G M cb sb) → wz (d + 1) mt_X0_prepare.2.2.2.2.1 Q (mt_X0_prepare.2.2.2.2.1.drop 58) [some (.inr (.inr (some (w 125)))), some (.inr (.inr (some (w p)))), some (.inl mo), some (.inl (cs_most (M0.1 s) mo.toNat k.toNat)), some (.inl k)] [] G M cb sb := by
  obtain ⟨gpl, gna, gta, gba, gwa, gtr, gbr, itr, ibr, p0, p1, p2, p3, rt, rb⟩ := lq_K hA hB hN.pin.1
  have hG := hG5.1
  have et := cs_te hr
  have b1 := cs_r1 hr
  have bw := cs_rw hr (j := (mo + 76).toNat) (by omega) (by omega)
  intro n
  induction n with
  | zero =>
    intro k GN2 RS2 M cb sb e k0 hC hI h
    obtain ⟨hI1, hI2⟩ := hI
    rw [show k.toNat = cs_t (M0.1 s) by omega]
    refine w_il rfl ?_
    refine w_aln rfl ?_
    refine w_gi ga.g125 rfl (by decide) rfl (hC.2.2.2.1) ?_
    refine w_cmge (fun c1 => ?_) (fun c1 => ?_)
    · skip
      exact h GN2 RS2 M _ _ _ hC ⟨fun t ht => hI1 t (by omega), hI2⟩
    · exfalso; omega
  | succ n ih =>
    intro k GN2 RS2 M cb sb e k0 hC hI h
    obtain ⟨hI1, hI2⟩ := hI
    have bt := cs_rt hr (j := (9 * k + 4).toNat) (by omega) (by omega)
    have hrs := hRS k.toNat (by omega)
    have hrs2 : RS2 k.toNat (mo + 1).toNat = cs_all (M0.1 s) k.toNat (12 - (mo + 1).toNat) (mo + 1).toNat := ((hI2 _ _ (by omega)).2).trans hrs
    have al := cs_all_9 hr (k := k.toNat) (by omega) (12 - (mo + 1).toNat) (mo + 1).toNat (by omega)
    have gi := cs_gain_i (H := M0.1 s) k0 m0
    have ms := cs_most_0 (H := M0.1 s) mo.toNat k.toNat
    have ms9 : cs_most (M0.1 s) mo.toNat k.toNat ≤ 999 := cs_most_9 hr (by omega) _ (by omega)
    have em : 12 - mo.toNat = 12 - (mo + 1).toNat + 1 := by omega
    have ek : (k + 1).toNat = k.toNat + 1 := by omega
    refine w_il rfl ?_
    refine w_aln rfl ?_
    refine w_gi ga.g125 rfl (by decide) rfl (hC.2.2.2.1) ?_
    refine w_cmge (fun c1 => ?_) (fun c1 => ?_)
    · exfalso; omega
    · skip
      refine w_aln rfl ?_
      refine w_gr ga.g125 rfl (by decide) rfl (hC.r gb.r125_9) ?_
      refine w_il rfl ?_
      refine w_aald ga.g129 rfl (by show (0 : Int) ≤ k; omega) (by show k < ((3 : Nat) : Int); omega) (hC.r (gb.w130 (by show k.toNat < 3; omega))) ?_
      refine w_iln rfl ?_
      refine w_aln rfl ?_
      refine w_il rfl ?_
      refine w_iln rfl ?_
      refine w_cv (st := [.inl mo, .inr (.inr (some (w (130 + k.toNat))))]) rfl gpl rfl (Nat.le_of_ble_eq_true rfl) (fun kk h => h) ⟨Nat.le_of_ble_eq_true rfl, ?_⟩
      show wz (d) mt_X3_gain.2.2.2.2.1 _ mt_X3_gain.2.2.2.2.1 [some (.inr (.inr (some (w p)))), some (.inl k), some (.inl mo)] [] _ _ _ _
      refine w_ic ?_
      refine w_aln rfl ?_
      refine w_gr gpl rfl (by decide) rfl (hC.r (p3)) ?_
      refine w_iln rfl ?_
      refine w_iald (v := (M0.1 s (mo + 76).toNat)) gwa rfl (by show (0 : Int) ≤ mo; omega) (by show mo < ((12 : Nat) : Int); omega) (hC.io (ga.qn gwa (by decide)) (lq_rW hG (by show mo.toNat < 12; omega) (by show (mo + 76).toNat = 76 + mo.toNat; omega))) ?_
      refine w_aln rfl ?_
      refine w_gr gpl rfl (by decide) rfl (hC.r (p1)) ?_
      refine w_iln rfl ?_
      refine w_aald gta rfl (by show (0 : Int) ≤ k; omega) (by show k < ((8 : Nat) : Int); omega) (hC.r (rt _ (by show k.toNat < 8; omega))) ?_
      refine w_ic ?_
      refine w_iald (v := (M0.1 s (9 * k + 4).toNat)) (gtr _ (by show k.toNat < 8; omega)) rfl (by show (0 : Int) ≤ 0; omega) (by show 0 < ((9 : Nat) : Int); omega) (hC.io (ga.qn (gtr _ (by show k.toNat < 8; omega)) (by decide)) (lq_rT hG (by show k.toNat < 8; omega) (by show (0 : Int).toNat < 9; omega) (by show (9 * k + 4).toNat = 4 + 9 * k.toNat + (0 : Int).toNat; omega))) ?_
      refine w_sub ⟨by show (-2147483648 : Int) ≤ (M0.1 s (mo + 76).toNat) - (M0.1 s (9 * k + 4).toNat); omega, by show (M0.1 s (mo + 76).toNat) - (M0.1 s (9 * k + 4).toNat) < (2147483648 : Int); omega⟩ ?_
      refine w_max (Nat.le_of_ble_eq_true rfl) ?_
      intro z2 fz2 gz2
      refine w_iret (fun q => by cases q) ?_
      refine w_iast (ga.w130 (by omega)) rfl (by decide) (by show (0 : Int) ≤ mo; omega) (by show mo < ((12 : Nat) : Int); omega) ?_
      have hC3 := hC.h130 (t := k.toNat) (j := mo.toNat) (v := z2) ga (by show k.toNat < 3; omega)
      refine w_aln rfl ?_
      refine w_gr ga.g125 rfl (by decide) rfl (hC3.r gb.r125_10) ?_
      refine w_il rfl ?_
      refine w_aald ga.g133 rfl (by show (0 : Int) ≤ k; omega) (by show k < ((3 : Nat) : Int); omega) (hC3.r (gb.w134 (by show k.toNat < 3; omega))) ?_
      refine w_iln rfl ?_
      refine w_aln rfl ?_
      refine w_gr ga.g125 rfl (by decide) rfl (hC3.r gb.r125_10) ?_
      refine w_il rfl ?_
      refine w_aald ga.g133 rfl (by show (0 : Int) ≤ k; omega) (by show k < ((3 : Nat) : Int); omega) (hC3.r (gb.w134 (by show k.toNat < 3; omega))) ?_
      refine w_iln rfl ?_
      refine w_ic ?_
      refine w_add ⟨by show (-2147483648 : Int) ≤ mo + 1; omega, by show mo + 1 < (2147483648 : Int); omega⟩ ?_
      refine w_iald (v := (RS2 k.toNat (mo + 1).toNat)) (ga.w134 (by omega)) rfl (by show (0 : Int) ≤ mo + 1; omega) (by show mo + 1 < ((13 : Nat) : Int); omega) (hC3.2.2.2.2.2.2.2.2.1 _ _ (by show k.toNat < 3; omega) (by show (mo + 1).toNat < 13; omega)) ?_
      refine w_aln rfl ?_
      refine w_gr ga.g125 rfl (by decide) rfl (hC3.r gb.r125_9) ?_
      refine w_il rfl ?_
      refine w_aald ga.g129 rfl (by show (0 : Int) ≤ k; omega) (by show k < ((3 : Nat) : Int); omega) (hC3.r (gb.w130 (by show k.toNat < 3; omega))) ?_
      refine w_iln rfl ?_
      refine w_iald (v := z2) (ga.w130 (by omega)) rfl (by show (0 : Int) ≤ mo; omega) (by show mo < ((12 : Nat) : Int); omega) ((hC3.2.2.2.2.2.2.2.1 _ _ (by show k.toNat < 3; omega) (by show mo.toNat < 12; omega)).trans rv_up2_s) ?_
      refine w_add ⟨by show (-2147483648 : Int) ≤ (RS2 k.toNat (mo + 1).toNat) + z2; omega, by show (RS2 k.toNat (mo + 1).toNat) + z2 < (2147483648 : Int); omega⟩ ?_
      refine w_iast (ga.w134 (by omega)) rfl (by decide) (by show (0 : Int) ≤ mo; omega) (by show mo < ((13 : Nat) : Int); omega) ?_
      have hC4 := hC3.h134 (t := k.toNat) (j := mo.toNat) (v := (RS2 k.toNat (mo + 1).toNat) + z2) ga (by show k.toNat < 3; omega)
      refine w_iln rfl ?_
      refine w_aln rfl ?_
      refine w_gr ga.g125 rfl (by decide) rfl (hC4.r gb.r125_9) ?_
      refine w_il rfl ?_
      refine w_aald ga.g129 rfl (by show (0 : Int) ≤ k; omega) (by show k < ((3 : Nat) : Int); omega) (hC4.r (gb.w130 (by show k.toNat < 3; omega))) ?_
      refine w_iln rfl ?_
      refine w_iald (v := z2) (ga.w130 (by omega)) rfl (by show (0 : Int) ≤ mo; omega) (by show mo < ((12 : Nat) : Int); omega) ((hC4.2.2.2.2.2.2.2.1 _ _ (by show k.toNat < 3; omega) (by show mo.toNat < 12; omega)).trans rv_up2_s) ?_
      refine w_max (Nat.le_of_ble_eq_true rfl) ?_
      intro z5 fz5 gz5
      refine w_isn ?_
      show wz _ _ _ _ [some (.inr (.inr (some (w 125)))), some (.inr (.inr (some (w p)))), some (.inl mo), some (.inl z5), some (.inl k)] _ _ _ _ _
      refine w_ii rfl ⟨by show (-2147483648 : Int) ≤ k + 1; omega, by show k + 1 < (2147483648 : Int); omega⟩ ?_
      show wz _ _ _ _ [some (.inr (.inr (some (w 125)))), some (.inr (.inr (some (w p)))), some (.inl mo), some (.inl z5), some (.inl (k + 1))] _ _ _ _ _
      refine w_goto ?_
      have eg : z2 = cs_gain (M0.1 s) k.toNat mo.toNat := by rw [gi]; split <;> omega
      have ers : (RS2 k.toNat (mo + 1).toNat) + z2 = cs_all (M0.1 s) k.toNat (12 - mo.toNat) mo.toNat := by
        rw [em]
        show _ = cs_gain (M0.1 s) k.toNat mo.toNat + cs_all (M0.1 s) k.toNat (12 - (mo + 1).toNat) (mo.toNat + 1)
        rw [show mo.toNat + 1 = (mo + 1).toNat by omega, ← hrs2]; omega
      have ems : z5 = cs_most (M0.1 s) mo.toNat (k + 1).toNat := by
        rw [ek]
        show _ = max (cs_most (M0.1 s) mo.toNat k.toNat) (cs_gain (M0.1 s) k.toNat mo.toNat)
        omega
      rw [ems]
      refine ih (k + 1) _ _ _ _ _ (by omega) (by omega) hC4 ⟨fun t ht => ?_, fun t j hj => ?_⟩ h
      · by_cases ej : (t : Int) = k
        · rw [show t = k.toNat by omega, rv_up2_s, rv_up2_s]; exact ⟨eg, ers⟩
        · rw [rv_up2_o (by omega), rv_up2_o (by omega)]; exact hI1 t (by omega)
      · rw [rv_up2_x (by omega), rv_up2_x (by omega)]; exact hI2 t j hj
theorem r_p2 {G : mj_G} {M0 : mj_M} {x s p q : Nat} {w : Nat → Nat} {Q : mj_P} {d : Nat} (ga : cp_GA G w) (gb : cp_BA M0 w) (hA : lq_A G w) (hB : lq_B M0 w x) (hN : lq_N M0 w p q) (hG5 : rv_G6 (M0.1 s) 0 w p M0) (hr : rv_r4 (M0.1 s) 0) (t1 : 1 ≤ M0.1 s 0) (t3 : M0.1 s 0 ≤ 3) : ∀ (n : Nat) (mo : Int) (BR LA RB : Nat → Int) (GN RS : Nat → Nat → Int) (M : mj_M) (v3 v4 : Option mj_V) (cb sb : Nat), mo + 1 = n → n ≤ 12 → cq_C w M0 (M0.1 s 0) (M0.1 s 1) BR LA GN RS RB M → (∀ j : Nat, (j : Int) < M0.1 s 0 → BR j = M0.1 s (10 + 9 * j) ∧ LA j = M0.1 s (8 + 9 * j)) ∧ (∀ t i : Nat, (t : Int) < M0.1 s 0 → mo < (i : Int) → i < 12 → GN t i = cs_gain (M0.1 s) t i) ∧ (∀ t i : Nat, (t : Int) < M0.1 s 0 → mo < (i : Int) → i ≤ 12 → RS t i = cs_all (M0.1 s) t (12 - i) i) ∧ (∀ i : Nat, mo < (i : Int) → i ≤ 12 → RB i = cs_bestof (M0.1 s) (12 - i) i) → (∀ (BR LA RB : Nat → Int) (GN RS : Nat → Nat → Int) (M : mj_M), cq_C w M0 (M0.1 s 0) (M0.1 s 1) BR LA GN RS RB M → (∀ j : Nat, (j : Int) < M0.1 s 0 → BR j = M0.1 s (10 + 9 * j) ∧ LA j = M0.1 s (8 + 9 * j)) ∧ (∀ t i : Nat, (t : Int) < M0.1 s 0 → (-1) < (i : Int) → i < 12 → GN t i = cs_gain (M0.1 s) t i) ∧ (∀ t i : Nat, (t : Int) < M0.1 s 0 → (-1) < (i : Int) → i ≤ 12 → RS t i = cs_all (M0.1 s) t (12 - i) i) ∧ (∀ i : Nat, (-1) < (i : Int) → i ≤ 12 → RB i = cs_bestof (M0.1 s) (12 - i) i) → Q none G M) → wz (d + 1) mt_X0_prepare.2.2.2.2.1 Q (mt_X0_prepare.2.2.2.2.1.drop 52) [some (.inr (.inr (some (w 125)))), some (.inr (.inr (some (w p)))), some (.inl mo), v3, v4] [] G M cb sb := by
  obtain ⟨gpl, gna, gta, gba, gwa, gtr, gbr, itr, ibr, p0, p1, p2, p3, rt, rb⟩ := lq_K hA hB hN.pin.1
  have hG := hG5.1
  have et := cs_te hr
  have b1 := cs_r1 hr
  intro n
  induction n with
  | zero =>
    intro mo BR LA RB GN RS M v3 v4 cb sb e en hC hI h
    obtain rfl : mo = -1 := by omega
    refine w_iln rfl ?_
    refine w_iflt (fun c1 => ?_) (fun c1 => ?_)
    · skip
      exact w_ret (h BR LA RB GN RS M hC hI)
    · exfalso; omega
  | succ n ih =>
    intro mo BR LA RB GN RS M v3 v4 cb sb e en hC hI h
    obtain ⟨hI1, hI2, hI3, hI4⟩ := hI
    have ms := cs_most_0 (H := M0.1 s) mo.toNat (cs_t (M0.1 s))
    have ms9 : cs_most (M0.1 s) mo.toNat (cs_t (M0.1 s)) ≤ 999 := cs_most_9 hr (by omega) _ (by omega)
    have hrb := hI4 (mo + 1).toNat (by omega) (by omega)
    have bo := cs_bo_9 hr (12 - (mo + 1).toNat) (mo + 1).toNat (by omega)
    have em : 12 - mo.toNat = 12 - (mo + 1).toNat + 1 := by omega
    refine w_iln rfl ?_
    refine w_iflt (fun c1 => ?_) (fun c1 => ?_)
    · exfalso; omega
    · skip
      refine w_ic ?_
      refine w_isn ?_
      show wz _ _ _ _ [some (.inr (.inr (some (w 125)))), some (.inr (.inr (some (w p)))), some (.inl mo), some (.inl 0), v4] _ _ _ _ _
      refine w_ic ?_
      refine w_is ?_
      show wz _ _ _ _ [some (.inr (.inr (some (w 125)))), some (.inr (.inr (some (w p)))), some (.inl mo), some (.inl 0), some (.inl 0)] _ _ _ _ _
      refine r_p3 ga gb hA hB hN hG5 hr t1 t3 (mo := mo) (BR := BR) (LA := LA) (RB := RB) (GN := GN) (RS := RS) (by omega) (by omega) (fun t ht => hI3 t _ ht (by omega) (by omega)) (cs_t (M0.1 s)) 0 GN RS _ _ _ (by omega) (by decide) hC ⟨fun t ht => absurd ht (by omega), fun _ _ _ => ⟨rfl, rfl⟩⟩ (fun GN2 RS2 M2 v4 cb sb hC2 hJ => ?_)
      obtain ⟨hJ1, hJ2⟩ := hJ
      refine w_aln rfl ?_
      refine w_gr ga.g125 rfl (by decide) rfl (hC2.r gb.r125_11) ?_
      refine w_iln rfl ?_
      refine w_aln rfl ?_
      refine w_gr ga.g125 rfl (by decide) rfl (hC2.r gb.r125_11) ?_
      refine w_iln rfl ?_
      refine w_ic ?_
      refine w_add ⟨by show (-2147483648 : Int) ≤ mo + 1; omega, by show mo + 1 < (2147483648 : Int); omega⟩ ?_
      refine w_iald (v := (RB (mo + 1).toNat)) ga.g137 rfl (by show (0 : Int) ≤ mo + 1; omega) (by show mo + 1 < ((13 : Nat) : Int); omega) (hC2.2.2.2.2.2.2.2.2.2 _ (by show (mo + 1).toNat < 13; omega)) ?_
      refine w_iln rfl ?_
      refine w_add ⟨by show (-2147483648 : Int) ≤ (RB (mo + 1).toNat) + (cs_most (M0.1 s) mo.toNat (cs_t (M0.1 s))); omega, by show (RB (mo + 1).toNat) + (cs_most (M0.1 s) mo.toNat (cs_t (M0.1 s))) < (2147483648 : Int); omega⟩ ?_
      refine w_iast ga.g137 rfl (by decide) (by show (0 : Int) ≤ mo; omega) (by show mo < ((13 : Nat) : Int); omega) ?_
      have hC2 := hC2.h137 (j := mo.toNat) (v := (RB (mo + 1).toNat) + (cs_most (M0.1 s) mo.toNat (cs_t (M0.1 s)))) ga
      refine w_ii rfl ⟨by show (-2147483648 : Int) ≤ mo + (-1); omega, by show mo + (-1) < (2147483648 : Int); omega⟩ ?_
      show wz _ _ _ _ [some (.inr (.inr (some (w 125)))), some (.inr (.inr (some (w p)))), some (.inl (mo + (-1))), some (.inl (cs_most (M0.1 s) mo.toNat (cs_t (M0.1 s)))), v4] _ _ _ _ _
      refine w_goto ?_
      refine ih (mo - 1) _ _ _ _ _ _ _ _ _ _ (by omega) (by omega) hC2 ⟨hI1, fun t i h1 h2 h3 => ?_, fun t i h1 h2 h3 => ?_, fun i h2 h3 => ?_⟩ h
      · by_cases ej : (i : Int) = mo
        · rw [show i = mo.toNat by omega]; exact (hJ1 t h1).1
        · rw [(hJ2 t i ej).1]; exact hI2 t i h1 (by omega) h3
      · by_cases ej : (i : Int) = mo
        · rw [show i = mo.toNat by omega]; exact (hJ1 t h1).2
        · rw [(hJ2 t i ej).2]; exact hI3 t i h1 (by omega) h3
      · by_cases ej : (i : Int) = mo
        · rw [show i = mo.toNat by omega, rv_up_s, hrb, em]
          show _ = cs_bestof (M0.1 s) (12 - (mo + 1).toNat) (mo.toNat + 1) + cs_most (M0.1 s) mo.toNat (cs_t (M0.1 s))
          rw [show mo.toNat + 1 = (mo + 1).toNat by omega]
        · rw [rv_up_n (by omega)]; exact hI4 i (by omega) h3
theorem r_X0_prepare {G : mj_G} {M0 : mj_M} {x s p q : Nat} {w : Nat → Nat} {Q : mj_P} {d : Nat} (ga : cp_GA G w) (gb : cp_BA M0 w) (hA : lq_A G w) (hB : lq_B M0 w x) (hN : lq_N M0 w p q) (hG5 : rv_G6 (M0.1 s) 0 w p M0) (hr : rv_r4 (M0.1 s) 0) (t1 : 1 ≤ M0.1 s 0) (t3 : M0.1 s 0 ≤ 3) (h : ∀ (BR LA RB : Nat → Int) (GN RS : Nat → Nat → Int) (M : mj_M), cq_C w M0 (M0.1 s 0) (M0.1 s 1) BR LA GN RS RB M → (∀ j : Nat, (j : Int) < M0.1 s 0 → BR j = M0.1 s (10 + 9 * j) ∧ LA j = M0.1 s (8 + 9 * j)) ∧ (∀ t i : Nat, (t : Int) < M0.1 s 0 → (-1) < (i : Int) → i < 12 → GN t i = cs_gain (M0.1 s) t i) ∧ (∀ t i : Nat, (t : Int) < M0.1 s 0 → (-1) < (i : Int) → i ≤ 12 → RS t i = cs_all (M0.1 s) t (12 - i) i) ∧ (∀ i : Nat, (-1) < (i : Int) → i ≤ 12 → RB i = cs_bestof (M0.1 s) (12 - i) i) → Q none G M) : mj_R mj_tab (d + 2) 10 [.inr (.inr (some (w 125))), .inr (.inr (some (w p)))] G M0 Q := by
  obtain ⟨gpl, gna, gta, gba, gwa, gtr, gbr, itr, ibr, p0, p1, p2, p3, rt, rb⟩ := lq_K hA hB hN.pin.1
  have hG := hG5.1
  have et := cs_te hr
  have b1 := cs_r1 hr
  have hC := cq_C.re (w := w) (M := M0)
  obtain ⟨t5, ht5⟩ : ∃ F, F = M0.1 (w 125) 5 := ⟨_, rfl⟩
  obtain ⟨t6, ht6⟩ : ∃ F, F = M0.1 (w 125) 6 := ⟨_, rfl⟩
  obtain ⟨BR, hBR⟩ : ∃ F, F = M0.1 (w 127) := ⟨_, rfl⟩
  obtain ⟨LA, hLA⟩ : ∃ F, F = M0.1 (w 128) := ⟨_, rfl⟩
  obtain ⟨RB, hRB⟩ : ∃ F, F = M0.1 (w 137) := ⟨_, rfl⟩
  obtain ⟨GN, hGN⟩ : ∃ F : Nat → Nat → Int, F = fun t => M0.1 (w (130 + t)) := ⟨_, rfl⟩
  obtain ⟨RS, hRS⟩ : ∃ F : Nat → Nat → Int, F = fun t => M0.1 (w (134 + t)) := ⟨_, rfl⟩
  rw [← ht5, ← ht6, ← hBR, ← hLA, ← hRB, ← hGN, ← hRS] at hC
  refine ⟨Nat.le_of_ble_eq_true rfl, ?_⟩
  show wz (d + 1) mt_X0_prepare.2.2.2.2.1 Q mt_X0_prepare.2.2.2.2.1 [some (.inr (.inr (some (w 125)))), some (.inr (.inr (some (w p)))), none, none, none] [] G M0 _ _
  refine w_aln rfl ?_
  refine w_aln rfl ?_
  refine w_gi gpl rfl (by decide) rfl (hC.io (ga.qn gpl (by decide)) (hG.1.symm)) ?_
  refine w_ic ?_
  refine w_min (Nat.le_of_ble_eq_true rfl) ?_
  intro z1 fz1 gz1
  refine w_pi ga.g125 rfl (by decide) rfl (fun q => by cases q) ?_
  have hC2 := hC.h5 (v := z1) ga
  refine w_aln rfl ?_
  refine w_aln rfl ?_
  refine w_gi gpl rfl (by decide) rfl (hC2.io (ga.qn gpl (by decide)) (hG.2.1.symm)) ?_
  refine w_pi ga.g125 rfl (by decide) rfl (fun q => by cases q) ?_
  have hC3 := hC2.h6 (v := (M0.1 s 1)) ga
  refine w_aln rfl ?_
  refine w_gr ga.g125 rfl (by decide) rfl (hC3.r gb.r125_11) ?_
  refine w_bp ?_
  refine w_ic ?_
  refine w_iast ga.g137 rfl (by decide) (by show (0 : Int) ≤ 12; omega) (by show 12 < ((13 : Nat) : Int); omega) ?_
  have hC4 := hC3.h137 (j := (12 : Int).toNat) (v := 0) ga
  refine w_ic ?_
  refine w_isn ?_
  show wz _ _ _ _ [some (.inr (.inr (some (w 125)))), some (.inr (.inr (some (w p)))), some (.inl 0), none, none] _ _ _ _ _
  obtain rfl : z1 = M0.1 s 0 := by omega
  refine r_p1 ga gb hA hB hN hG5 hr t1 t3 (cs_t (M0.1 s)) 0 _ _ _ _ _ _ _ _ _ _ (by omega) (by decide) hC4 (show rv_up RB (12 : Int).toNat 0 12 = 0 from rv_up_s) (fun j hj => absurd hj (by omega)) (fun BR LA RB GN RS M v2 v3 v4 cb sb hC2 g12 hI => ?_)
  refine w_bp ?_
  refine w_isn ?_
  exact r_p2 ga gb hA hB hN hG5 hr t1 t3 12 11 BR LA RB GN RS M _ _ _ _ (by decide) (by decide) hC2 ⟨fun j hj => ⟨(hI j hj).1, (hI j hj).2.1⟩, fun t i h1 h2 h3 => by omega, fun t i h1 h2 h3 => by rw [show i = 12 by omega]; exact (hI t h1).2.2, fun i h2 h3 => by rw [show i = 12 by omega]; exact g12⟩ h
end
section
/-! ===== the cheapest letting: the class, listTails (laid by a program) ===== -/
abbrev ct_ne (w : Nat → Nat) (a : Nat) : Prop := ∀ i, (i = 125 ∨ (139 ≤ i ∧ i ≤ 143)) → a ≠ w i
def ct_C (w : Nat → Nat) (M0 : mj_M) (tl : Int) (TG : Nat → Nat → Int) (TC TT : Nat → Int) (M : mj_M) : Prop := M.2 = M0.2 ∧ (∀ a, ct_ne w a → M.1 a = M0.1 a) ∧ (∀ k, k ≠ 15 → M.1 (w 125) k = M0.1 (w 125) k) ∧ M.1 (w 125) 15 = tl ∧ (∀ t k, t < 3 → k < 81 → M.1 (w (139 + t)) k = TG t k) ∧ (∀ k, k < 81 → M.1 (w 142) k = TC k) ∧ (∀ k, k < 81 → M.1 (w 143) k = TT k)
/-- what prepare has laid out -/
def cq_K (H : Nat → Int) (M : mj_M) (w : Nat → Nat) : Prop := M.1 (w 125) 5 = H 0 ∧ M.1 (w 125) 6 = H 1 ∧ (∀ k, k < cs_t H → M.1 (w 127) k = H (10 + 9 * k)) ∧ (∀ k j, k < cs_t H → j < 12 → M.1 (w (130 + k)) j = cs_gain H k j)
section CU2
variable {G : mj_G} {M M0 : mj_M} {w : Nat → Nat} {H : Nat → Int} {tl v z : Int} {TC TT : Nat → Int} {TG : Nat → Nat → Int} {j k a b i t : Nat}
theorem ct_C.re : ct_C w M (M.1 (w 125) 15) (fun t => M.1 (w (139 + t))) (M.1 (w 142)) (M.1 (w 143)) M := ⟨rfl, fun _ _ => rfl, fun _ _ => rfl, rfl, fun _ _ _ _ => rfl, fun _ _ => rfl, fun _ _ => rfl⟩
theorem ct_C.r (h : ct_C w M0 tl TG TC TT M) (e : M0.2.2 a k = some b) : M.2.2 a k = some b := by rw [h.1]; exact e
theorem ct_C.o (h : ct_C w M0 tl TG TC TT M) (n : ct_ne w a) : M.1 a k = M0.1 a k := by rw [h.2.1 a n]
theorem cp_GA.tn (h : cp_GA G w) (hi : i < 361) (e : i ≠ 125 ∧ (i < 139 ∨ 143 < i)) : ct_ne w (w i) := fun j hj => h.ne hi (by omega) (by omega)
theorem cq_K.br (h : cq_K H M w) (hk : k < cs_t H) : M.1 (w 127) k = H (10 + 9 * k) := h.2.2.1 k hk
theorem cq_K.gn (h : cq_K H M w) (hk : k < cs_t H) (hj : j < 12) : M.1 (w (130 + k)) j = cs_gain H k j := h.2.2.2 k j hk hj
theorem ct_C.h15 (h : ct_C w M0 tl TG TC TT M) (ga : cp_GA G w) : ct_C w M0 v TG TC TT (mj_p0 M (w 125) 15 v) :=
  ⟨h.1, fun a n => (wz_c (n 125 (by omega))).trans (h.2.1 a n), fun k hk => (hn_n (Or.inr hk)).trans (h.2.2.1 k hk), hn_s, fun t2 k h1 h2 => (hn_n (Or.inl (ga.ne (by omega) (by omega) (by omega)))).trans (h.2.2.2.2.1 t2 k h1 h2), fun k hk => (hn_n (Or.inl (ga.ne (by omega) (by omega) (by omega)))).trans (h.2.2.2.2.2.1 k hk), fun k hk => (hn_n (Or.inl (ga.ne (by omega) (by omega) (by omega)))).trans (h.2.2.2.2.2.2 k hk)⟩
theorem ct_C.h139 (h : ct_C w M0 tl TG TC TT M) (ga : cp_GA G w) (ht : t < 3) : ct_C w M0 tl (rv_up2 TG t j v) TC TT (mj_p0 M (w (139 + t)) j v) :=
  ⟨h.1, fun a n => (wz_c (n (139 + t) (by omega))).trans (h.2.1 a n), fun k hk => (hn_n (Or.inl (ga.ne (by omega) (by omega) (by omega)))).trans (h.2.2.1 k hk), (hn_n (Or.inl (ga.ne (by omega) (by omega) (by omega)))).trans h.2.2.2.1, cq_up2 (fun t' h1 h2 => ga.ne (by omega) (by omega) (by omega)) h.2.2.2.2.1, fun k hk => (hn_n (Or.inl (ga.ne (by omega) (by omega) (by omega)))).trans (h.2.2.2.2.2.1 k hk), fun k hk => (hn_n (Or.inl (ga.ne (by omega) (by omega) (by omega)))).trans (h.2.2.2.2.2.2 k hk)⟩
theorem ct_C.h142 (h : ct_C w M0 tl TG TC TT M) (ga : cp_GA G w) : ct_C w M0 tl TG (rv_up TC j v) TT (mj_p0 M (w 142) j v) :=
  ⟨h.1, fun a n => (wz_c (n 142 (by omega))).trans (h.2.1 a n), fun k hk => (hn_n (Or.inl (ga.ne (by omega) (by omega) (by omega)))).trans (h.2.2.1 k hk), (hn_n (Or.inl (ga.ne (by omega) (by omega) (by omega)))).trans h.2.2.2.1, fun t2 k h1 h2 => (hn_n (Or.inl (ga.ne (by omega) (by omega) (by omega)))).trans (h.2.2.2.2.1 t2 k h1 h2), cp_up h.2.2.2.2.2.1, fun k hk => (hn_n (Or.inl (ga.ne (by omega) (by omega) (by omega)))).trans (h.2.2.2.2.2.2 k hk)⟩
theorem ct_C.h143 (h : ct_C w M0 tl TG TC TT M) (ga : cp_GA G w) : ct_C w M0 tl TG TC (rv_up TT j v) (mj_p0 M (w 143) j v) :=
  ⟨h.1, fun a n => (wz_c (n 143 (by omega))).trans (h.2.1 a n), fun k hk => (hn_n (Or.inl (ga.ne (by omega) (by omega) (by omega)))).trans (h.2.2.1 k hk), (hn_n (Or.inl (ga.ne (by omega) (by omega) (by omega)))).trans h.2.2.2.1, fun t2 k h1 h2 => (hn_n (Or.inl (ga.ne (by omega) (by omega) (by omega)))).trans (h.2.2.2.2.1 t2 k h1 h2), fun k hk => (hn_n (Or.inl (ga.ne (by omega) (by omega) (by omega)))).trans (h.2.2.2.2.2.1 k hk), cp_up h.2.2.2.2.2.2⟩
end CU2
theorem r_X0_costOf2 {G : mj_G} {M0 : mj_M} {w : Nat → Nat} {H : Nat → Int} {Q : mj_P} {d : Nat} (ga : cp_GA G w) (gb : cp_BA M0 w) (hK : cq_K H M0 w) (hr : rv_r4 H 0) (t1 : 1 ≤ H 0) (t3 : H 0 ≤ 3) {M : mj_M} {tl : Int} {TG : Nat → Nat → Int} {TC TT : Nat → Int} (hC : ct_C w M0 tl TG TC TT M) {fr to : Int} (f0 : 0 ≤ fr) (f3 : fr ≤ H 0) (t0 : 0 ≤ to) (tt : to < H 0) (h : Q (some (.inl (cs_cost H fr.toNat to.toNat))) G M) : mj_R mj_tab (d + 1) 1 [.inr (.inr (some (w 125))), .inl fr, .inl to] G M Q := by
  have et := cs_te hr
  have b1 := cs_r1 hr
  have tb := cs_rt hr (j := (9 * to + 10).toNat) (by omega) (by omega)
  have eb9 : 10 + 9 * to.toNat = (9 * to + 10).toNat := by omega
  refine ⟨Nat.le_of_ble_eq_true rfl, ?_⟩
  show wz d mt_X0_costOf.2.2.2.2.1 Q mt_X0_costOf.2.2.2.2.1 [some (.inr (.inr (some (w 125)))), some (.inl fr), some (.inl to)] [] G M _ _
  refine w_iln rfl ?_
  refine w_iln rfl ?_
  refine w_cmne (fun c1 => ?_) (fun c1 => ?_)
  · skip
    refine w_aln rfl ?_
    refine w_gi ga.g125 rfl (by decide) rfl ((hC.2.2.1 6 (by decide)).trans hK.2.1) ?_
    refine w_iln rfl ?_
    refine w_iln rfl ?_
    refine w_sub ⟨by show (-2147483648 : Int) ≤ fr - to; omega, by show fr - to < (2147483648 : Int); omega⟩ ?_
    refine w_abs (Nat.le_of_ble_eq_true rfl) ?_
    intro z2 fz2 gz2
    have mb3 := cs_mul_b (u := (H 1)) (z := z2) (n := 3) (by omega) (by omega) (by omega) (by omega)
    refine w_mul ⟨by show (-2147483648 : Int) ≤ (H 1) * z2; omega, by show (H 1) * z2 < (2147483648 : Int); omega⟩ ?_
    refine w_aln rfl ?_
    refine w_gr ga.g125 rfl (by decide) rfl (hC.r gb.r125_7) ?_
    refine w_iln rfl ?_
    refine w_iald (v := (H (9 * to + 10).toNat)) ga.g127 rfl (by show (0 : Int) ≤ to; omega) (by show to < ((3 : Nat) : Int); omega) ((hC.o (ga.tn (by decide) (by decide))).trans ((hK.br (by omega)).trans (congrArg H (by omega)))) ?_
    refine w_add ⟨by show (-2147483648 : Int) ≤ ((H 1) * z2) + (H (9 * to + 10).toNat); omega, by show ((H 1) * z2) + (H (9 * to + 10).toNat) < (2147483648 : Int); omega⟩ ?_
    have ev : ((H 1) * z2) + (H (9 * to + 10).toNat) = cs_cost H fr.toNat to.toNat := cs_cost_i (z := z2) (by unfold cs_d; split <;> omega) (by rw [if_pos ⟨by omega, by omega⟩, eb9])
    exact w_iret (fun q => by cases q) (by rw [ev]; exact h)
  · skip
    refine w_ic ?_
    refine w_goto ?_
    have ev : (0 : Int) = cs_cost H fr.toNat to.toNat := by rw [show fr.toNat = to.toNat by omega, cs_cost_s]
    exact w_iret (fun q => by cases q) (by rw [ev]; exact h)
theorem r_pa {G : mj_G} {M0 : mj_M} {w : Nat → Nat} {H : Nat → Int} {Q : mj_P} {d : Nat} (ga : cp_GA G w) (gb : cp_BA M0 w) (hK : cq_K H M0 w) (hr : rv_r4 H 0) (t1 : 1 ≤ H 0) (t3 : H 0 ≤ 3) {tl : Int} {TG : Nat → Nat → Int} {TC TT : Nat → Int} {mo c f to : Int} (m8 : 8 ≤ mo) (m11 : mo ≤ 11) (c0 : 0 ≤ c) (cT : c < H 0) (f0 : 0 ≤ f) (ft : f ≤ to) (to9 : to < 81) : ∀ (n : Nat) (k : Int) (TG2 : Nat → Nat → Int) (M : mj_M) (l5 : Int) (cb sb : Nat), k + n = H 0 → 0 ≤ k → ct_C w M0 tl TG2 TC TT M → (∀ t j : Nat, (t : Int) < k → j < 81 → TG2 t j = if j = to.toNat then TG t f.toNat else TG t j) → (∀ t j : Nat, k ≤ (t : Int) → (t : Int) < H 0 → TG2 t j = TG t j) → (∀ (TG2 : Nat → Nat → Int) (M : mj_M) (l5 : Int) (v6 : Option mj_V) (cb sb : Nat), ct_C w M0 tl TG2 TC TT M → (∀ t j : Nat, (t : Int) < H 0 → j < 81 → TG2 t j = if j = to.toNat then TG t f.toNat else TG t j) → wz (d + 1) mt_X0_putAhead.2.2.2.2.1 Q (mt_X0_putAhead.2.2.2.2.1.drop 51) [some (.inr (.inr (some (w 125)))), some (.inl mo), some (.inl c), some (.inl f), some (.inl to), some (.inl l5), v6] [] G M cb sb) → wz (d + 1) mt_X0_putAhead.2.2.2.2.1 Q (mt_X0_putAhead.2.2.2.2.1.drop 33) [some (.inr (.inr (some (w 125)))), some (.inl mo), some (.inl c), some (.inl f), some (.inl to), some (.inl l5), some (.inl k)] [] G M cb sb := by
  have et := cs_te hr
  have b1 := cs_r1 hr
  intro n
  induction n with
  | zero =>
    intro k TG2 M l5 cb sb e k0 hC h1 h2 h
    refine w_il rfl ?_
    refine w_aln rfl ?_
    refine w_gi ga.g125 rfl (by decide) rfl ((hC.2.2.1 5 (by decide)).trans hK.1) ?_
    refine w_cmge (fun c1 => ?_) (fun c1 => ?_)
    · skip
      exact h TG2 M _ _ _ _ hC (fun t j ht hj => h1 t j (by omega) hj)
    · exfalso; omega
  | succ n ih =>
    intro k TG2 M l5 cb sb e k0 hC h1 h2 h
    refine w_il rfl ?_
    refine w_aln rfl ?_
    refine w_gi ga.g125 rfl (by decide) rfl ((hC.2.2.1 5 (by decide)).trans hK.1) ?_
    refine w_cmge (fun c1 => ?_) (fun c1 => ?_)
    · exfalso; omega
    · skip
      refine w_aln rfl ?_
      refine w_gr ga.g125 rfl (by decide) rfl (hC.r gb.r125_12) ?_
      refine w_il rfl ?_
      refine w_aald ga.g138 rfl (by show (0 : Int) ≤ k; omega) (by show k < ((3 : Nat) : Int); omega) (hC.r (gb.w139 (by show k.toNat < 3; omega))) ?_
      refine w_il rfl ?_
      refine w_aln rfl ?_
      refine w_gr ga.g125 rfl (by decide) rfl (hC.r gb.r125_12) ?_
      refine w_il rfl ?_
      refine w_aald ga.g138 rfl (by show (0 : Int) ≤ k; omega) (by show k < ((3 : Nat) : Int); omega) (hC.r (gb.w139 (by show k.toNat < 3; omega))) ?_
      refine w_iln rfl ?_
      refine w_iald (v := (TG2 k.toNat f.toNat)) (ga.w139 (by omega)) rfl (by show (0 : Int) ≤ f; omega) (by show f < ((81 : Nat) : Int); omega) (hC.2.2.2.2.1 _ _ (by show k.toNat < 3; omega) (by show f.toNat < 81; omega)) ?_
      refine w_iast (ga.w139 (by omega)) rfl (by decide) (by show (0 : Int) ≤ to; omega) (by show to < ((81 : Nat) : Int); omega) ?_
      have hC2 := hC.h139 (t := k.toNat) (j := to.toNat) (v := (TG2 k.toNat f.toNat)) ga (by show k.toNat < 3; omega)
      refine w_ii rfl ⟨by show (-2147483648 : Int) ≤ k + 1; omega, by show k + 1 < (2147483648 : Int); omega⟩ ?_
      show wz _ _ _ _ [some (.inr (.inr (some (w 125)))), some (.inl mo), some (.inl c), some (.inl f), some (.inl to), some (.inl l5), some (.inl (k + 1))] _ _ _ _ _
      refine w_goto ?_
      refine ih (k + 1) _ _ _ _ _ (by omega) (by omega) hC2 (fun t j ht hj => ?_) (fun t j ht h3 => ?_) h
      · by_cases ej : (t : Int) = k
        · have e2 : t = k.toNat := by omega
          subst e2
          by_cases e3 : j = to.toNat
          · rw [if_pos e3, e3, rv_up2_s]; exact h2 _ _ (by omega) (by omega)
          · rw [if_neg e3, rv_up2_n e3]; exact h2 _ _ (by omega) (by omega)
        · rw [rv_up2_o (by omega)]; exact h1 t j (by omega) hj
      · rw [rv_up2_o (by omega)]; exact h2 t j (by omega) h3
theorem r_X0_putAhead {G : mj_G} {M0 : mj_M} {w : Nat → Nat} {H : Nat → Int} {Q : mj_P} {d : Nat} (ga : cp_GA G w) (gb : cp_BA M0 w) (hK : cq_K H M0 w) (hr : rv_r4 H 0) (t1 : 1 ≤ H 0) (t3 : H 0 ≤ 3) {M : mj_M} {tl : Int} {TG : Nat → Nat → Int} {TC TT : Nat → Int} (hC : ct_C w M0 tl TG TC TT M) {mo c f to : Int} (m8 : 8 ≤ mo) (m11 : mo ≤ 11) (c0 : 0 ≤ c) (cT : c < H 0) (f0 : 0 ≤ f) (ft : f ≤ to) (to9 : to < 81) (hf : mo ≠ 11 → 0 ≤ TT f.toNat ∧ TT f.toNat < H 0) (hc : mo ≠ 11 → 0 ≤ TC f.toNat ∧ TC f.toNat ≤ 4000) (hg : ∀ t : Nat, (t : Int) < H 0 → 0 ≤ TG t f.toNat ∧ TG t f.toNat ≤ 4000) (h : ∀ TG2 M2, ct_C w M0 tl TG2 (rv_up TC to.toNat (if mo = 11 then 0 else TC f.toNat + cs_cost H c.toNat (TT f.toNat).toNat)) (rv_up TT to.toNat c) M2 → (∀ t j : Nat, (t : Int) < H 0 → j < 81 → TG2 t j = if j = to.toNat then TG t f.toNat + (if t = c.toNat then cs_gain H c.toNat mo.toNat else 0) else TG t j) → Q none G M2) : mj_R mj_tab (d + 2) 11 [.inr (.inr (some (w 125))), .inl mo, .inl c, .inl f, .inl to] G M Q := by
  have et := cs_te hr
  have b1 := cs_r1 hr
  have gc := cs_gain_9 hr (k := c.toNat) (m := mo.toNat) (by omega) (by omega)
  refine ⟨Nat.le_of_ble_eq_true rfl, ?_⟩
  show wz (d + 1) mt_X0_putAhead.2.2.2.2.1 Q mt_X0_putAhead.2.2.2.2.1 [some (.inr (.inr (some (w 125)))), some (.inl mo), some (.inl c), some (.inl f), some (.inl to), none, none] [] G M _ _
  refine w_il rfl ?_
  refine w_bp ?_
  refine w_cmlt (fun c1 => ?_) (fun c1 => ?_)
  · skip
    refine w_iln rfl ?_
    refine w_bp ?_
    refine w_cmne (fun c2 => ?_) (fun c2 => ?_)
    · skip
      refine w_ic ?_
      refine w_is ?_
      show wz _ _ _ _ [some (.inr (.inr (some (w 125)))), some (.inl mo), some (.inl c), some (.inl f), some (.inl to), some (.inl 0), none] _ _ _ _ _
      refine w_aln rfl ?_
      refine w_gr ga.g125 rfl (by decide) rfl (hC.r gb.r125_13) ?_
      refine w_il rfl ?_
      refine w_il rfl ?_
      refine w_ifeq (fun c3 => ?_) (fun c3 => ?_)
      · skip
        refine w_aln rfl ?_
        refine w_gr ga.g125 rfl (by decide) rfl (hC.r gb.r125_13) ?_
        refine w_iln rfl ?_
        refine w_iald (v := (TC f.toNat)) ga.g142 rfl (by show (0 : Int) ≤ f; omega) (by show f < ((81 : Nat) : Int); omega) (hC.2.2.2.2.2.1 _ (by show f.toNat < 81; omega)) ?_
        refine w_aln rfl ?_
        refine w_iln rfl ?_
        refine w_aln rfl ?_
        refine w_gr ga.g125 rfl (by decide) rfl (hC.r gb.r125_14) ?_
        refine w_iln rfl ?_
        refine w_iald (v := (TT f.toNat)) ga.g143 rfl (by show (0 : Int) ≤ f; omega) (by show f < ((81 : Nat) : Int); omega) (hC.2.2.2.2.2.2 _ (by show f.toNat < 81; omega)) ?_
        have cst := cs_cost_9 hr t3 (a := c.toNat) (b := (TT f.toNat).toNat) (by omega) (by have := hf (by omega); omega)
        have hf2 := hf (by omega)
        have hc2 := hc (by omega)
        refine w_cv (st := [.inl (TC f.toNat), .inl to, .inr (.inr (some (w 142)))]) rfl ga.g125 rfl (Nat.le_of_ble_eq_true rfl) (fun kk h => h) (r_X0_costOf2 (d := d) ga gb hK hr t1 t3 hC (fr := c) (to := (TT f.toNat)) (by omega) (by omega) (by omega) (by omega) ?_)
        refine w_add ⟨by show (-2147483648 : Int) ≤ (TC f.toNat) + (cs_cost H c.toNat (TT f.toNat).toNat); omega, by show (TC f.toNat) + (cs_cost H c.toNat (TT f.toNat).toNat) < (2147483648 : Int); omega⟩ ?_
        refine w_iast ga.g142 rfl (by decide) (by show (0 : Int) ≤ to; omega) (by show to < ((81 : Nat) : Int); omega) ?_
        have hC4 := hC.h142 (j := to.toNat) (v := (TC f.toNat) + (cs_cost H c.toNat (TT f.toNat).toNat)) ga
        refine w_ic ?_
        refine w_is ?_
        show wz _ _ _ _ [some (.inr (.inr (some (w 125)))), some (.inl mo), some (.inl c), some (.inl f), some (.inl to), some (.inl 0), some (.inl 0)] _ _ _ _ _
        have ecv : (if mo = 11 then 0 else TC f.toNat + cs_cost H c.toNat (TT f.toNat).toNat) = (TC f.toNat) + (cs_cost H c.toNat (TT f.toNat).toNat) := by rw [if_neg (by omega)]
        rw [ecv] at h
        refine r_pa (d := d) ga gb hK hr t1 t3 (mo := mo) (c := c) (f := f) (to := to) m8 m11 c0 cT f0 ft to9 (TG := TG) (cs_t H) 0 TG _ _ _ _ (by omega) (by decide) hC4 (fun t j ht hj => absurd ht (by omega)) (fun _ _ _ _ => rfl) (fun TG2 M2 l5 v6 cb sb hC2 g1 => ?_)
        have gto : TG2 c.toNat to.toNat = TG c.toNat f.toNat := (g1 _ _ (by omega) (by omega)).trans (if_pos rfl)
        have hgc := hg c.toNat (by omega)
        refine w_aln rfl ?_
        refine w_gr ga.g125 rfl (by decide) rfl (hC2.r gb.r125_12) ?_
        refine w_iln rfl ?_
        refine w_aald ga.g138 rfl (by show (0 : Int) ≤ c; omega) (by show c < ((3 : Nat) : Int); omega) (hC2.r (gb.w139 (by show c.toNat < 3; omega))) ?_
        refine w_il rfl ?_
        refine w_dup2 ?_
        refine w_iald (v := (TG2 c.toNat to.toNat)) (ga.w139 (by omega)) rfl (by show (0 : Int) ≤ to; omega) (by show to < ((81 : Nat) : Int); omega) (hC2.2.2.2.2.1 _ _ (by show c.toNat < 3; omega) (by show to.toNat < 81; omega)) ?_
        refine w_aln rfl ?_
        refine w_gr ga.g125 rfl (by decide) rfl (hC2.r gb.r125_9) ?_
        refine w_iln rfl ?_
        refine w_aald ga.g129 rfl (by show (0 : Int) ≤ c; omega) (by show c < ((3 : Nat) : Int); omega) (hC2.r (gb.w130 (by show c.toNat < 3; omega))) ?_
        refine w_iln rfl ?_
        refine w_iald (v := (cs_gain H c.toNat mo.toNat)) (ga.w130 (by omega)) rfl (by show (0 : Int) ≤ mo; omega) (by show mo < ((12 : Nat) : Int); omega) ((hC2.o (ga.tn (by omega) (by omega))).trans (hK.gn (by omega) (by omega))) ?_
        refine w_add ⟨by show (-2147483648 : Int) ≤ (TG2 c.toNat to.toNat) + (cs_gain H c.toNat mo.toNat); omega, by show (TG2 c.toNat to.toNat) + (cs_gain H c.toNat mo.toNat) < (2147483648 : Int); omega⟩ ?_
        refine w_iast (ga.w139 (by omega)) rfl (by decide) (by show (0 : Int) ≤ to; omega) (by show to < ((81 : Nat) : Int); omega) ?_
        have hC5 := hC2.h139 (t := c.toNat) (j := to.toNat) (v := (TG2 c.toNat to.toNat) + (cs_gain H c.toNat mo.toNat)) ga (by show c.toNat < 3; omega)
        refine w_aln rfl ?_
        refine w_gr ga.g125 rfl (by decide) rfl (hC5.r gb.r125_14) ?_
        refine w_il rfl ?_
        refine w_iln rfl ?_
        refine w_iast ga.g143 rfl (by decide) (by show (0 : Int) ≤ to; omega) (by show to < ((81 : Nat) : Int); omega) ?_
        have hC6 := hC5.h143 (j := to.toNat) (v := c) ga
        refine w_ret (h _ _ hC6 (fun t j ht hj => ?_))
        have g2 := g1 t j ht hj
        by_cases e3 : j = to.toNat
        · rw [if_pos e3] at g2 ⊢
          by_cases e4 : t = c.toNat
          · rw [if_pos e4, e4, e3, rv_up2_s, gto]
          · rw [if_neg e4, rv_up2_o e4, g2]; omega
        · rw [if_neg e3] at g2 ⊢
          by_cases e4 : t = c.toNat
          · rw [e4, rv_up2_n e3, ← e4]; exact g2
          · rw [rv_up2_o e4]; exact g2
      · exfalso; omega
    · skip
      refine w_ic ?_
      refine w_goto ?_
      refine w_is ?_
      show wz _ _ _ _ [some (.inr (.inr (some (w 125)))), some (.inl mo), some (.inl c), some (.inl f), some (.inl to), some (.inl 1), none] _ _ _ _ _
      refine w_aln rfl ?_
      refine w_gr ga.g125 rfl (by decide) rfl (hC.r gb.r125_13) ?_
      refine w_il rfl ?_
      refine w_il rfl ?_
      refine w_ifeq (fun c7 => ?_) (fun c7 => ?_)
      · exfalso; omega
      · skip
        refine w_ic ?_
        refine w_goto ?_
        refine w_iast ga.g142 rfl (by decide) (by show (0 : Int) ≤ to; omega) (by show to < ((81 : Nat) : Int); omega) ?_
        have hC8 := hC.h142 (j := to.toNat) (v := 0) ga
        refine w_ic ?_
        refine w_is ?_
        show wz _ _ _ _ [some (.inr (.inr (some (w 125)))), some (.inl mo), some (.inl c), some (.inl f), some (.inl to), some (.inl 1), some (.inl 0)] _ _ _ _ _
        have ecv : (if mo = 11 then 0 else TC f.toNat + cs_cost H c.toNat (TT f.toNat).toNat) = 0 := by rw [if_pos (by omega)]
        rw [ecv] at h
        refine r_pa (d := d) ga gb hK hr t1 t3 (mo := mo) (c := c) (f := f) (to := to) m8 m11 c0 cT f0 ft to9 (TG := TG) (cs_t H) 0 TG _ _ _ _ (by omega) (by decide) hC8 (fun t j ht hj => absurd ht (by omega)) (fun _ _ _ _ => rfl) (fun TG2 M2 l5 v6 cb sb hC2 g1 => ?_)
        have gto : TG2 c.toNat to.toNat = TG c.toNat f.toNat := (g1 _ _ (by omega) (by omega)).trans (if_pos rfl)
        have hgc := hg c.toNat (by omega)
        refine w_aln rfl ?_
        refine w_gr ga.g125 rfl (by decide) rfl (hC2.r gb.r125_12) ?_
        refine w_iln rfl ?_
        refine w_aald ga.g138 rfl (by show (0 : Int) ≤ c; omega) (by show c < ((3 : Nat) : Int); omega) (hC2.r (gb.w139 (by show c.toNat < 3; omega))) ?_
        refine w_il rfl ?_
        refine w_dup2 ?_
        refine w_iald (v := (TG2 c.toNat to.toNat)) (ga.w139 (by omega)) rfl (by show (0 : Int) ≤ to; omega) (by show to < ((81 : Nat) : Int); omega) (hC2.2.2.2.2.1 _ _ (by show c.toNat < 3; omega) (by show to.toNat < 81; omega)) ?_
        refine w_aln rfl ?_
        refine w_gr ga.g125 rfl (by decide) rfl (hC2.r gb.r125_9) ?_
        refine w_iln rfl ?_
        refine w_aald ga.g129 rfl (by show (0 : Int) ≤ c; omega) (by show c < ((3 : Nat) : Int); omega) (hC2.r (gb.w130 (by show c.toNat < 3; omega))) ?_
        refine w_iln rfl ?_
        refine w_iald (v := (cs_gain H c.toNat mo.toNat)) (ga.w130 (by omega)) rfl (by show (0 : Int) ≤ mo; omega) (by show mo < ((12 : Nat) : Int); omega) ((hC2.o (ga.tn (by omega) (by omega))).trans (hK.gn (by omega) (by omega))) ?_
        refine w_add ⟨by show (-2147483648 : Int) ≤ (TG2 c.toNat to.toNat) + (cs_gain H c.toNat mo.toNat); omega, by show (TG2 c.toNat to.toNat) + (cs_gain H c.toNat mo.toNat) < (2147483648 : Int); omega⟩ ?_
        refine w_iast (ga.w139 (by omega)) rfl (by decide) (by show (0 : Int) ≤ to; omega) (by show to < ((81 : Nat) : Int); omega) ?_
        have hC9 := hC2.h139 (t := c.toNat) (j := to.toNat) (v := (TG2 c.toNat to.toNat) + (cs_gain H c.toNat mo.toNat)) ga (by show c.toNat < 3; omega)
        refine w_aln rfl ?_
        refine w_gr ga.g125 rfl (by decide) rfl (hC9.r gb.r125_14) ?_
        refine w_il rfl ?_
        refine w_iln rfl ?_
        refine w_iast ga.g143 rfl (by decide) (by show (0 : Int) ≤ to; omega) (by show to < ((81 : Nat) : Int); omega) ?_
        have hC10 := hC9.h143 (j := to.toNat) (v := c) ga
        refine w_ret (h _ _ hC10 (fun t j ht hj => ?_))
        have g2 := g1 t j ht hj
        by_cases e3 : j = to.toNat
        · rw [if_pos e3] at g2 ⊢
          by_cases e4 : t = c.toNat
          · rw [if_pos e4, e4, e3, rv_up2_s, gto]
          · rw [if_neg e4, rv_up2_o e4, g2]; omega
        · rw [if_neg e3] at g2 ⊢
          by_cases e4 : t = c.toNat
          · rw [e4, rv_up2_n e3, ← e4]; exact g2
          · rw [rv_up2_o e4]; exact g2
  · exfalso; omega
theorem cw_new {H : Nat → Int} {r c i m : Nat} (hi : i < cs_t H ^ r) (k : Nat) : cw_g H k (r + 1) m (c * cs_t H ^ r + i) = cw_g H k r (m + 1) i + (if k = c then cs_gain H k m else 0) ∧ (c * cs_t H ^ r + i) / cs_t H ^ r = c ∧ cw_c H (r + 1) (c * cs_t H ^ r + i) = if r = 0 then 0 else cw_c H r i + cs_cost H c (i / cs_t H ^ (r - 1)) := by
  obtain ⟨e1, e2⟩ := cw_dv (t := c) hi
  refine ⟨?_, e1, ?_⟩
  · show cw_g H k r (m + 1) _ + (if k = _ / _ then _ else _) = _
    rw [e1, e2]
  · cases r with
    | zero => rfl
    | succ r =>
      rw [if_neg (Nat.succ_ne_zero r)]
      show cw_c H (r + 1) _ + cs_cost H (_ / _) (_ / _) = _
      rw [e1, e2]; rfl
theorem cw_g_9 {H : Nat → Int} (h : rv_r4 H 0) {k : Nat} (hk : k < 8) : ∀ (r m i : Nat), m + r ≤ 12 → 0 ≤ cw_g H k r m i ∧ cw_g H k r m i ≤ 999 * r
  | 0, _, _, _ => ⟨Int.le_refl _, Int.le_refl _⟩
  | r + 1, m, i, e => by
    have h1 := cw_g_9 h hk r (m + 1) (i % cs_t H ^ r) (by omega)
    have h2 := cs_gain_9 h hk (show m < 12 by omega)
    show 0 ≤ cw_g H k r (m + 1) (i % cs_t H ^ r) + _ ∧ cw_g H k r (m + 1) (i % cs_t H ^ r) + _ ≤ _
    split <;> omega
theorem r_ld {G : mj_G} {M0 : mj_M} {w : Nat → Nat} {H : Nat → Int} {Q : mj_P} {d : Nat} (ga : cp_GA G w) (gb : cp_BA M0 w) (hK : cq_K H M0 w) (hr : rv_r4 H 0) (t1 : 1 ≤ H 0) (t3 : H 0 ≤ 3) {tl mo : Int} {r : Nat} (er : mo + r = 11) (m8 : 8 ≤ mo) (m11 : mo ≤ 11) (etl : tl = ((cs_t H ^ r : Nat) : Int)) {c : Int} {A B : Nat} (c0 : 0 ≤ c) (cT : c < H 0) (hA : A = c.toNat * cs_t H ^ r) (hB : B = A + cs_t H ^ r) : ∀ (n : Nat) (i : Int) (TG2 : Nat → Nat → Int) (TC2 TT2 : Nat → Int) (M : mj_M) (cb sb : Nat), i + n = ((cs_t H ^ r : Nat) : Int) → 0 ≤ i → ct_C w M0 tl TG2 TC2 TT2 M → (∀ j : Nat, (A ≤ j ∧ (j : Int) < A + i) ∨ (B ≤ j ∧ j < cs_t H * cs_t H ^ r) → (∀ t : Nat, (t : Int) < H 0 → TG2 t j = cw_g H t (r + 1) mo.toNat j) ∧ TC2 j = cw_c H (r + 1) j ∧ TT2 j = ((j / cs_t H ^ r : Nat) : Int)) ∧ (∀ j : Nat, j < cs_t H ^ r → (c ≠ 0 ∨ i ≤ (j : Int)) → (∀ t : Nat, (t : Int) < H 0 → TG2 t j = cw_g H t r (mo.toNat + 1) j) ∧ (mo ≠ 11 → TC2 j = cw_c H r j ∧ TT2 j = ((j / cs_t H ^ (r - 1) : Nat) : Int))) → (∀ (TG2 : Nat → Nat → Int) (TC2 TT2 : Nat → Int) (M : mj_M) (v3 : Option mj_V) (cb sb : Nat), ct_C w M0 tl TG2 TC2 TT2 M → (∀ j : Nat, (A ≤ j ∧ (j : Int) < A + ((cs_t H ^ r : Nat) : Int)) ∨ (B ≤ j ∧ j < cs_t H * cs_t H ^ r) → (∀ t : Nat, (t : Int) < H 0 → TG2 t j = cw_g H t (r + 1) mo.toNat j) ∧ TC2 j = cw_c H (r + 1) j ∧ TT2 j = ((j / cs_t H ^ r : Nat) : Int)) ∧ (∀ j : Nat, j < cs_t H ^ r → (c ≠ 0 ∨ ((cs_t H ^ r : Nat) : Int) ≤ (j : Int)) → (∀ t : Nat, (t : Int) < H 0 → TG2 t j = cw_g H t r (mo.toNat + 1) j) ∧ (mo ≠ 11 → TC2 j = cw_c H r j ∧ TT2 j = ((j / cs_t H ^ (r - 1) : Nat) : Int))) → wz (d + 2) mt_X0_listTails.2.2.2.2.1 Q (mt_X0_listTails.2.2.2.2.1.drop 53) [some (.inr (.inr (some (w 125)))), some (.inl mo), some (.inl c), v3] [] G M cb sb) → wz (d + 2) mt_X0_listTails.2.2.2.2.1 Q (mt_X0_listTails.2.2.2.2.1.drop 36) [some (.inr (.inr (some (w 125)))), some (.inl mo), some (.inl c), some (.inl i)] [] G M cb sb := by
  have et := cs_te hr
  have b1 := cs_r1 hr
  have pw1 : 1 ≤ cs_t H ^ r := Nat.pow_pos (by omega)
  have pw3 : cs_t H ^ r ≤ 27 := by
    have q := cw_pow (H := H) (by omega) (by omega)
    rcases (by omega : r = 0 ∨ r = 1 ∨ r = 2 ∨ r = 3) with z | z | z | z
    · rw [z, Nat.pow_zero]; decide
    · rw [z]; omega
    · rw [z]; omega
    · rw [z]; omega
  have hA54 : A ≤ 54 := by
    rcases (by omega : c.toNat = 0 ∨ c.toNat = 1 ∨ c.toNat = 2) with z | z | z <;> rw [z] at hA <;> omega
  have hcA : c * ((cs_t H ^ r : Nat) : Int) = (A : Int) := by
    rw [hA, Int.natCast_mul, show ((c.toNat : Nat) : Int) = c by omega]
  intro n
  induction n with
  | zero =>
    intro i TG2 TC2 TT2 M cb sb e i0 hC hI h
    obtain rfl : i = ((cs_t H ^ r : Nat) : Int) := by omega
    refine w_iln rfl ?_
    refine w_aln rfl ?_
    refine w_gi ga.g125 rfl (by decide) rfl (hC.2.2.2.1.trans etl) ?_
    refine w_cmge (fun c1 => ?_) (fun c1 => ?_)
    · skip
      exact h TG2 TC2 TT2 M _ _ _ hC hI
    · exfalso; omega
  | succ n ih =>
    intro i TG2 TC2 TT2 M cb sb e i0 hC hI h
    obtain ⟨hI1, hI2⟩ := hI
    obtain ⟨od1, od2⟩ := hI2 i.toNat (by omega) (by omega)
    have hti : mo ≠ 11 → i.toNat / cs_t H ^ (r - 1) < cs_t H := fun z => Nat.div_lt_of_lt_mul (by rw [← Nat.pow_succ, show (r - 1).succ = r by omega]; omega)
    refine w_iln rfl ?_
    refine w_aln rfl ?_
    refine w_gi ga.g125 rfl (by decide) rfl (hC.2.2.2.1.trans etl) ?_
    refine w_cmge (fun c1 => ?_) (fun c1 => ?_)
    · exfalso; omega
    · skip
      refine w_aln rfl ?_
      refine w_iln rfl ?_
      refine w_iln rfl ?_
      refine w_iln rfl ?_
      refine w_iln rfl ?_
      refine w_aln rfl ?_
      refine w_gi ga.g125 rfl (by decide) rfl (hC.2.2.2.1.trans etl) ?_
      refine w_mul ⟨by show (-2147483648 : Int) ≤ c * ((cs_t H ^ r : Nat) : Int); omega, by show c * ((cs_t H ^ r : Nat) : Int) < (2147483648 : Int); omega⟩ ?_
      refine w_iln rfl ?_
      refine w_add ⟨by show (-2147483648 : Int) ≤ (c * ((cs_t H ^ r : Nat) : Int)) + i; omega, by show (c * ((cs_t H ^ r : Nat) : Int)) + i < (2147483648 : Int); omega⟩ ?_
      refine w_cv (st := []) rfl ga.g125 rfl (Nat.le_of_ble_eq_true rfl) (fun kk h => h) (r_X0_putAhead (d := d) ga gb hK hr t1 t3 hC (mo := mo) (c := c) (f := i) (to := (c * ((cs_t H ^ r : Nat) : Int)) + i) m8 m11 c0 cT i0 ?_ (by omega) ?_ ?_ ?_ (fun TG3 M3 hC3 g1 => ?_))
      · omega
      · intro z; rw [(od2 z).2]; exact ⟨Int.natCast_nonneg _, by rw [← et]; exact Int.ofNat_lt.mpr (hti z)⟩
      · intro z
        have q := cw_c_9 hr t3 (r - 1) i.toNat (by rw [show r - 1 + 1 = r by omega]; omega)
        rw [show r - 1 + 1 = r by omega] at q
        rw [(od2 z).1]; omega
      · intro t ht; rw [od1 t ht]; have := cw_g_9 hr (k := t) (by omega) r (mo.toNat + 1) i.toNat (by omega); omega
      have eto : ((c * ((cs_t H ^ r : Nat) : Int)) + i).toNat = A + i.toNat := by omega
      refine w_ii rfl ⟨by show (-2147483648 : Int) ≤ i + 1; omega, by show i + 1 < (2147483648 : Int); omega⟩ ?_
      show wz _ _ _ _ [some (.inr (.inr (some (w 125)))), some (.inl mo), some (.inl c), some (.inl (i + 1))] _ _ _ _ _
      refine w_goto ?_
      rw [eto] at hC3 g1
      refine ih (i + 1) _ _ _ _ _ _ (by omega) (by omega) hC3 ⟨fun j hj => ?_, fun j hj hj2 => ?_⟩ h
      · by_cases ej : j = A + i.toNat
        · obtain ⟨n1, n2, n3⟩ := cw_new (H := H) (r := r) (c := c.toNat) (i := i.toNat) (m := mo.toNat) (by omega) 0
          rw [ej, hA]
          rw [hA] at g1
          refine ⟨fun t ht => ?_, ?_, ?_⟩
          · have n4 := (cw_new (H := H) (r := r) (c := c.toNat) (i := i.toNat) (m := mo.toNat) (by omega) t).1
            rw [g1 t _ ht (by omega), if_pos rfl, n4, od1 t ht]
            by_cases e4 : t = c.toNat
            · rw [if_pos e4, if_pos e4, e4]
            · rw [if_neg e4, if_neg e4]
          · rw [n3, ← hA, rv_up_s]
            by_cases e5 : mo = 11
            · rw [if_pos e5, if_pos (by omega)]
            · rw [if_neg e5, if_neg (by omega), (od2 e5).1, (od2 e5).2]; rfl
          · rw [n2, ← hA, rv_up_s]; omega
        · obtain ⟨q1, q2, q3⟩ := hI1 j (by omega)
          refine ⟨fun t ht => ?_, (rv_up_n ej).trans q2, (rv_up_n ej).trans q3⟩
          have hj81 : j < 81 := by
            have q4 : cs_t H * cs_t H ^ r ≤ 81 := by
              have q5 := Nat.mul_le_mul (show cs_t H ≤ 3 by omega) pw3
              omega
            omega
          rw [g1 t j ht hj81, if_neg ej]; exact q1 t ht
      · have ej : j ≠ A + i.toNat := by
          rcases (by omega : c = 0 ∨ 1 ≤ c) with z | z
          · have hA0 : A = 0 := by rw [hA, z]; exact Nat.zero_mul _
            omega
          · have q := Nat.mul_le_mul_right (cs_t H ^ r) (show 1 ≤ c.toNat by omega)
            rw [Nat.one_mul] at q; omega
        obtain ⟨q1, q2⟩ := hI2 j hj (by omega)
        exact ⟨fun t ht => by rw [g1 t j ht (by omega), if_neg ej]; exact q1 t ht, fun z => ⟨(rv_up_n ej).trans (q2 z).1, (rv_up_n ej).trans (q2 z).2⟩⟩
theorem r_lc2 {G : mj_G} {M0 : mj_M} {w : Nat → Nat} {H : Nat → Int} {Q : mj_P} {d : Nat} (ga : cp_GA G w) (gb : cp_BA M0 w) (hK : cq_K H M0 w) (hr : rv_r4 H 0) (t1 : 1 ≤ H 0) (t3 : H 0 ≤ 3) {tl mo : Int} {r : Nat} (er : mo + r = 11) (m8 : 8 ≤ mo) (m11 : mo ≤ 11) (etl : tl = ((cs_t H ^ r : Nat) : Int)) : ∀ (n : Nat) (c : Int) (C : Nat) (TG2 : Nat → Nat → Int) (TC2 TT2 : Nat → Int) (M : mj_M) (v3 : Option mj_V) (cb sb : Nat), c + 1 = n → n ≤ cs_t H → C = n * cs_t H ^ r → ct_C w M0 tl TG2 TC2 TT2 M → (∀ j : Nat, (C ≤ j ∧ j < cs_t H * cs_t H ^ r) → (∀ t : Nat, (t : Int) < H 0 → TG2 t j = cw_g H t (r + 1) mo.toNat j) ∧ TC2 j = cw_c H (r + 1) j ∧ TT2 j = ((j / cs_t H ^ r : Nat) : Int)) ∧ (0 ≤ c → ∀ j : Nat, j < cs_t H ^ r → (∀ t : Nat, (t : Int) < H 0 → TG2 t j = cw_g H t r (mo.toNat + 1) j) ∧ (mo ≠ 11 → TC2 j = cw_c H r j ∧ TT2 j = ((j / cs_t H ^ (r - 1) : Nat) : Int))) → (∀ (TG2 : Nat → Nat → Int) (TC2 TT2 : Nat → Int) (M : mj_M) (v2 v3 : Option mj_V) (cb sb : Nat), ct_C w M0 tl TG2 TC2 TT2 M → (∀ j : Nat, j < cs_t H * cs_t H ^ r → (∀ t : Nat, (t : Int) < H 0 → TG2 t j = cw_g H t (r + 1) mo.toNat j) ∧ TC2 j = cw_c H (r + 1) j ∧ TT2 j = ((j / cs_t H ^ r : Nat) : Int)) → wz (d + 2) mt_X0_listTails.2.2.2.2.1 Q (mt_X0_listTails.2.2.2.2.1.drop 55) [some (.inr (.inr (some (w 125)))), some (.inl mo), v2, v3] [] G M cb sb) → wz (d + 2) mt_X0_listTails.2.2.2.2.1 Q (mt_X0_listTails.2.2.2.2.1.drop 32) [some (.inr (.inr (some (w 125)))), some (.inl mo), some (.inl c), v3] [] G M cb sb := by
  have et := cs_te hr
  have b1 := cs_r1 hr
  have pw1 : 1 ≤ cs_t H ^ r := Nat.pow_pos (by omega)
  have pw3 : cs_t H ^ r ≤ 27 := by
    have q := cw_pow (H := H) (by omega) (by omega)
    rcases (by omega : r = 0 ∨ r = 1 ∨ r = 2 ∨ r = 3) with z | z | z | z
    · rw [z, Nat.pow_zero]; decide
    · rw [z]; omega
    · rw [z]; omega
    · rw [z]; omega
  intro n
  induction n with
  | zero =>
    intro c C TG2 TC2 TT2 M v3 cb sb ec en eC hC hI h
    obtain rfl : c = -1 := by omega
    rw [Nat.zero_mul] at eC
    refine w_iln rfl ?_
    refine w_iflt (fun c1 => ?_) (fun c1 => ?_)
    · skip
      exact h TG2 TC2 TT2 M _ _ _ _ hC (fun j hj => hI.1 j ⟨by omega, hj⟩)
    · exfalso; omega
  | succ n ihn =>
    intro c C TG2 TC2 TT2 M v3 cb sb ec en eC hC hI h
    obtain ⟨hI1, hI2⟩ := hI
    have eC2 : C = n * cs_t H ^ r + cs_t H ^ r := by rw [eC, Nat.succ_mul]
    refine w_iln rfl ?_
    refine w_iflt (fun c1 => ?_) (fun c1 => ?_)
    · exfalso; omega
    · skip
      refine w_ic ?_
      refine w_isn ?_
      show wz _ _ _ _ [some (.inr (.inr (some (w 125)))), some (.inl mo), some (.inl c), some (.inl 0)] _ _ _ _ _
      refine r_ld (d := d) ga gb hK hr t1 t3 (mo := mo) (r := r) er m8 m11 etl (c := c) (A := n * cs_t H ^ r) (B := C) (by omega) (by omega) (by rw [show c.toNat = n by omega]) eC2 (cs_t H ^ r) 0 TG2 TC2 TT2 M _ _ (by omega) (by decide) hC ⟨fun j hj => hI1 j (by omega), fun j hj _ => hI2 (by omega) j hj⟩ (fun TG3 TC3 TT3 M3 v3 cb sb hC3 hJ => ?_)
      obtain ⟨hJ1, hJ2⟩ := hJ
      refine w_ii rfl ⟨by show (-2147483648 : Int) ≤ c + (-1); omega, by show c + (-1) < (2147483648 : Int); omega⟩ ?_
      refine w_goto ?_
      refine ihn (c + (-1)) (n * cs_t H ^ r) TG3 TC3 TT3 M3 _ _ _ (by omega) (by omega) rfl hC3 ⟨fun j hj => hJ1 j (by omega), fun hc j hj => hJ2 j hj (Or.inl (by omega))⟩ h
theorem r_lt {G : mj_G} {M0 : mj_M} {w : Nat → Nat} {H : Nat → Int} {Q : mj_P} {d : Nat} (ga : cp_GA G w) (gb : cp_BA M0 w) (hK : cq_K H M0 w) (hr : rv_r4 H 0) (t1 : 1 ≤ H 0) (t3 : H 0 ≤ 3) : ∀ (n r : Nat) (mo tl : Int) (TG2 : Nat → Nat → Int) (TC2 TT2 : Nat → Int) (M : mj_M) (v2 v3 : Option mj_V) (cb sb : Nat), r + n = 4 → mo + r = 11 → tl = ((cs_t H ^ r : Nat) : Int) → ct_C w M0 tl TG2 TC2 TT2 M → (∀ j : Nat, j < cs_t H ^ r → (∀ t : Nat, (t : Int) < H 0 → TG2 t j = cw_g H t r (mo.toNat + 1) j) ∧ (mo ≠ 11 → TC2 j = cw_c H r j ∧ TT2 j = ((j / cs_t H ^ (r - 1) : Nat) : Int))) → (∀ (TG2 : Nat → Nat → Int) (TC2 TT2 : Nat → Int) (M : mj_M), ct_C w M0 ((cs_t H ^ 4 : Nat) : Int) TG2 TC2 TT2 M → (∀ j : Nat, j < cs_t H ^ 4 → (∀ t : Nat, (t : Int) < H 0 → TG2 t j = cw_g H t 4 8 j) ∧ TC2 j = cw_c H 4 j ∧ TT2 j = ((j / cs_t H ^ 3 : Nat) : Int)) → Q none G M) → wz (d + 2) mt_X0_listTails.2.2.2.2.1 Q (mt_X0_listTails.2.2.2.2.1.drop 24) [some (.inr (.inr (some (w 125)))), some (.inl mo), v2, v3] [] G M cb sb := by
  have et := cs_te hr
  have b1 := cs_r1 hr
  intro n
  induction n with
  | zero =>
    intro r mo tl TG2 TC2 TT2 M v2 v3 cb sb en er etl hC hI h
    obtain rfl : r = 4 := by omega
    obtain rfl : mo = 7 := by omega
    refine w_iln rfl ?_
    refine w_bp ?_
    refine w_cmlt (fun c1 => ?_) (fun c1 => ?_)
    · skip
      exact w_ret (h TG2 TC2 TT2 M (by rw [← etl]; exact hC) (fun j hj => ⟨(hI j hj).1, (hI j hj).2 (by decide)⟩))
    · exfalso; omega
  | succ n ih =>
    intro r mo tl TG2 TC2 TT2 M v2 v3 cb sb en er etl hC hI h
    have pw1 : 1 ≤ cs_t H ^ r := Nat.pow_pos (by omega)
    have pw3 : cs_t H ^ r ≤ 27 := by
      have q := cw_pow (H := H) (by omega) (by omega)
      rcases (by omega : r = 0 ∨ r = 1 ∨ r = 2 ∨ r = 3) with z | z | z | z
      · rw [z, Nat.pow_zero]; decide
      · rw [z]; omega
      · rw [z]; omega
      · rw [z]; omega
    refine w_iln rfl ?_
    refine w_bp ?_
    refine w_cmlt (fun c1 => ?_) (fun c1 => ?_)
    · exfalso; omega
    · skip
      refine w_aln rfl ?_
      refine w_gi ga.g125 rfl (by decide) rfl ((hC.2.2.1 5 (by decide)).trans hK.1) ?_
      refine w_ic ?_
      refine w_sub ⟨by show (-2147483648 : Int) ≤ (H 0) - 1; omega, by show (H 0) - 1 < (2147483648 : Int); omega⟩ ?_
      refine w_isn ?_
      show wz _ _ _ _ [some (.inr (.inr (some (w 125)))), some (.inl mo), some (.inl ((H 0) - 1)), v3] _ _ _ _ _
      refine r_lc2 (d := d) ga gb hK hr t1 t3 (mo := mo) (r := r) er (by omega) (by omega) etl (cs_t H) (H 0 - 1) (cs_t H * cs_t H ^ r) TG2 TC2 TT2 M _ _ _ (by omega) (Nat.le_refl _) rfl hC ⟨fun j hj => absurd hj.2 (by omega), fun _ => hI⟩ (fun TG3 TC3 TT3 M3 v2 v3 cb sb hC3 hJ => ?_)
      refine w_aln rfl ?_
      refine w_dupr ?_
      refine w_gi ga.g125 rfl (by decide) rfl (hC3.2.2.2.1.trans etl) ?_
      refine w_aln rfl ?_
      refine w_gi ga.g125 rfl (by decide) rfl ((hC3.2.2.1 5 (by decide)).trans hK.1) ?_
      have mb := Int.mul_le_mul (show ((cs_t H ^ r : Nat) : Int) ≤ 27 by omega) (show H 0 ≤ 3 by omega) (by omega) (by decide)
      have mb0 := Int.mul_nonneg (show 0 ≤ ((cs_t H ^ r : Nat) : Int) by omega) (show 0 ≤ H 0 by omega)
      refine w_mul ⟨by show (-2147483648 : Int) ≤ ((cs_t H ^ r : Nat) : Int) * (H 0); omega, by show ((cs_t H ^ r : Nat) : Int) * (H 0) < (2147483648 : Int); omega⟩ ?_
      refine w_pi ga.g125 rfl (by decide) rfl (fun q => by cases q) ?_
      have hC2 := hC3.h15 (v := ((cs_t H ^ r : Nat) : Int) * (H 0)) ga
      refine w_ii rfl ⟨by show (-2147483648 : Int) ≤ mo + (-1); omega, by show mo + (-1) < (2147483648 : Int); omega⟩ ?_
      show wz _ _ _ _ [some (.inr (.inr (some (w 125)))), some (.inl (mo + (-1))), v2, v3] _ _ _ _ _
      refine w_goto ?_
      have et2 : ((cs_t H ^ r : Nat) : Int) * (H 0) = ((cs_t H ^ (r + 1) : Nat) : Int) := by rw [Nat.pow_succ, Int.natCast_mul, et]
      refine ih (r + 1) _ _ TG3 TC3 TT3 _ _ _ _ _ (by omega) (by omega) et2 hC2 (fun j hj => ?_) h
      have q := hJ j (by rw [Nat.mul_comm, ← Nat.pow_succ]; exact hj)
      rw [show (mo + -1).toNat + 1 = mo.toNat by omega]
      exact ⟨q.1, fun _ => q.2⟩
theorem r_X0_listTails {G : mj_G} {M0 : mj_M} {w : Nat → Nat} {H : Nat → Int} {Q : mj_P} {d : Nat} (ga : cp_GA G w) (gb : cp_BA M0 w) (hK : cq_K H M0 w) (hr : rv_r4 H 0) (t1 : 1 ≤ H 0) (t3 : H 0 ≤ 3) (h : ∀ (TG2 : Nat → Nat → Int) (TC2 TT2 : Nat → Int) (M : mj_M), ct_C w M0 ((cs_t H ^ 4 : Nat) : Int) TG2 TC2 TT2 M → (∀ j : Nat, j < cs_t H ^ 4 → (∀ t : Nat, (t : Int) < H 0 → TG2 t j = cw_g H t 4 8 j) ∧ TC2 j = cw_c H 4 j ∧ TT2 j = ((j / cs_t H ^ 3 : Nat) : Int)) → Q none G M) : mj_R mj_tab (d + 3) 8 [.inr (.inr (some (w 125)))] G M0 Q := by
  have et := cs_te hr
  have b1 := cs_r1 hr
  have hC := ct_C.re (w := w) (M := M0)
  obtain ⟨tl, htl⟩ : ∃ F, F = M0.1 (w 125) 15 := ⟨_, rfl⟩
  obtain ⟨TG, hTG⟩ : ∃ F : Nat → Nat → Int, F = fun t => M0.1 (w (139 + t)) := ⟨_, rfl⟩
  obtain ⟨TC, hTC⟩ : ∃ F, F = M0.1 (w 142) := ⟨_, rfl⟩
  obtain ⟨TT, hTT⟩ : ∃ F, F = M0.1 (w 143) := ⟨_, rfl⟩
  rw [← htl, ← hTG, ← hTC, ← hTT] at hC
  refine ⟨Nat.le_of_ble_eq_true rfl, ?_⟩
  show wz (d + 2) mt_X0_listTails.2.2.2.2.1 Q mt_X0_listTails.2.2.2.2.1 [some (.inr (.inr (some (w 125)))), none, none, none] [] G M0 _ _
  refine w_aln rfl ?_
  refine w_ic ?_
  refine w_pi ga.g125 rfl (by decide) rfl (fun q => by cases q) ?_
  have hC1 := hC.h15 (v := 1) ga
  refine w_aln rfl ?_
  refine w_gr ga.g125 rfl (by decide) rfl (hC1.r gb.r125_13) ?_
  refine w_ic ?_
  refine w_ic ?_
  refine w_iast ga.g142 rfl (by decide) (by show (0 : Int) ≤ 0; omega) (by show 0 < ((81 : Nat) : Int); omega) ?_
  have hC2 := hC1.h142 (j := (0 : Int).toNat) (v := 0) ga
  refine w_ic ?_
  refine w_isn ?_
  show wz _ _ _ _ [some (.inr (.inr (some (w 125)))), some (.inl 0), none, none] _ _ _ _ _
  refine w_iln rfl ?_
  refine w_ic ?_
  refine w_cmge (fun c3 => ?_) (fun c3 => ?_)
  · exfalso; omega
  · skip
    refine w_aln rfl ?_
    refine w_gr ga.g125 rfl (by decide) rfl (hC2.r gb.r125_12) ?_
    refine w_iln rfl ?_
    refine w_aald ga.g138 rfl (by show (0 : Int) ≤ 0; omega) (by show 0 < ((3 : Nat) : Int); omega) (hC2.r (gb.w139 (by show (0 : Int).toNat < 3; omega))) ?_
    refine w_ic ?_
    refine w_ic ?_
    refine w_iast (ga.w139 (by omega)) rfl (by decide) (by show (0 : Int) ≤ 0; omega) (by show 0 < ((81 : Nat) : Int); omega) ?_
    have hC4 := hC2.h139 (t := (0 : Int).toNat) (j := (0 : Int).toNat) (v := 0) ga (by show (0 : Int).toNat < 3; omega)
    refine w_ii rfl ⟨by show (-2147483648 : Int) ≤ 1; omega, by show 1 < (2147483648 : Int); omega⟩ ?_
    show wz _ _ _ _ [some (.inr (.inr (some (w 125)))), some (.inl 1), none, none] _ _ _ _ _
    refine w_goto ?_
    refine w_iln rfl ?_
    refine w_ic ?_
    refine w_cmge (fun c5 => ?_) (fun c5 => ?_)
    · exfalso; omega
    · skip
      refine w_aln rfl ?_
      refine w_gr ga.g125 rfl (by decide) rfl (hC4.r gb.r125_12) ?_
      refine w_iln rfl ?_
      refine w_aald ga.g138 rfl (by show (0 : Int) ≤ 1; omega) (by show 1 < ((3 : Nat) : Int); omega) (hC4.r (gb.w139 (by show (1 : Int).toNat < 3; omega))) ?_
      refine w_ic ?_
      refine w_ic ?_
      refine w_iast (ga.w139 (by omega)) rfl (by decide) (by show (0 : Int) ≤ 0; omega) (by show 0 < ((81 : Nat) : Int); omega) ?_
      have hC6 := hC4.h139 (t := (1 : Int).toNat) (j := (0 : Int).toNat) (v := 0) ga (by show (1 : Int).toNat < 3; omega)
      refine w_ii rfl ⟨by show (-2147483648 : Int) ≤ 2; omega, by show 2 < (2147483648 : Int); omega⟩ ?_
      show wz _ _ _ _ [some (.inr (.inr (some (w 125)))), some (.inl 2), none, none] _ _ _ _ _
      refine w_goto ?_
      refine w_iln rfl ?_
      refine w_ic ?_
      refine w_cmge (fun c7 => ?_) (fun c7 => ?_)
      · exfalso; omega
      · skip
        refine w_aln rfl ?_
        refine w_gr ga.g125 rfl (by decide) rfl (hC6.r gb.r125_12) ?_
        refine w_iln rfl ?_
        refine w_aald ga.g138 rfl (by show (0 : Int) ≤ 2; omega) (by show 2 < ((3 : Nat) : Int); omega) (hC6.r (gb.w139 (by show (2 : Int).toNat < 3; omega))) ?_
        refine w_ic ?_
        refine w_ic ?_
        refine w_iast (ga.w139 (by omega)) rfl (by decide) (by show (0 : Int) ≤ 0; omega) (by show 0 < ((81 : Nat) : Int); omega) ?_
        have hC8 := hC6.h139 (t := (2 : Int).toNat) (j := (0 : Int).toNat) (v := 0) ga (by show (2 : Int).toNat < 3; omega)
        refine w_ii rfl ⟨by show (-2147483648 : Int) ≤ 3; omega, by show 3 < (2147483648 : Int); omega⟩ ?_
        show wz _ _ _ _ [some (.inr (.inr (some (w 125)))), some (.inl 3), none, none] _ _ _ _ _
        refine w_goto ?_
        refine w_iln rfl ?_
        refine w_ic ?_
        refine w_cmge (fun c9 => ?_) (fun c9 => ?_)
        · skip
          refine w_bp ?_
          refine w_isn ?_
          show wz _ _ _ _ [some (.inr (.inr (some (w 125)))), some (.inl 11), none, none] _ _ _ _ _
          refine r_lt (d := d) ga gb hK hr t1 t3 4 0 11 1 _ _ _ _ _ _ _ _ (by decide) (by decide) (by rw [Nat.pow_zero]; rfl) hC8 (fun j hj => ?_) h
          rw [Nat.pow_zero] at hj
          refine ⟨fun t ht => ?_, fun z => absurd rfl z⟩
          rw [show j = 0 by omega]
          rcases (by omega : t = 0 ∨ t = 1 ∨ t = 2) with z | z | z <;> subst z
          · exact (congrFun (rv_up2_o (by decide)) 0).trans ((congrFun (rv_up2_o (by decide)) 0).trans rv_up2_s)
          · exact (congrFun (rv_up2_o (by decide)) 0).trans rv_up2_s
          · exact rv_up2_s
        · exfalso; omega
end
