/-! ===== the cheapest letting: the class, prepare (laid by a program) ===== -/
theorem cs_most_9 {H : Nat → Int} (h : rv_r4 H 0) {m : Nat} (hm : m < 12) : ∀ n, n ≤ 8 → cs_most H m n ≤ 999
  | 0, _ => by show (0 : Int) ≤ 999; decide
  | n + 1, hn => by
    have h3 := cs_most_9 h hm n (by omega)
    have h4 := cs_gain_9 h (k := n) (m := m) (by omega) hm
    show max (cs_most H m n) (cs_gain H n m) ≤ 999
    omega
abbrev cq_ne (w : Nat → Nat) (a : Nat) : Prop := ∀ i, (i = 125 ∨ i = 127 ∨ i = 128 ∨ (130 ≤ i ∧ i ≤ 132) ∨ (134 ≤ i ∧ i ≤ 137)) → a ≠ w i
def cq_C (w : Nat → Nat) (M0 : mj_M) (t5 t6 : Int) (BR LA : Nat → Int) (GN RS : Nat → Nat → Int) (RB : Nat → Int) (M : mj_M) : Prop := M.2 = M0.2 ∧ (∀ a, cq_ne w a → M.1 a = M0.1 a) ∧ (∀ k, k ≠ 5 → k ≠ 6 → M.1 (w 125) k = M0.1 (w 125) k) ∧ M.1 (w 125) 5 = t5 ∧ M.1 (w 125) 6 = t6 ∧ (∀ k, k < 3 → M.1 (w 127) k = BR k) ∧ (∀ k, k < 3 → M.1 (w 128) k = LA k) ∧ (∀ t k, t < 3 → k < 12 → M.1 (w (130 + t)) k = GN t k) ∧ (∀ t k, t < 3 → k < 13 → M.1 (w (134 + t)) k = RS t k) ∧ (∀ k, k < 13 → M.1 (w 137) k = RB k)
section CQ
variable {G : mj_G} {M M0 : mj_M} {w : Nat → Nat} {t5 t6 : Int} {BR LA RB : Nat → Int} {GN RS : Nat → Nat → Int} {v z : Int} {j k a b i t tg n : Nat}
theorem cq_C.re : cq_C w M (M.1 (w 125) 5) (M.1 (w 125) 6) (M.1 (w 127)) (M.1 (w 128)) (fun t => M.1 (w (130 + t))) (fun t => M.1 (w (134 + t))) (M.1 (w 137)) M := ⟨rfl, fun _ _ => rfl, fun _ _ _ => rfl, rfl, rfl, fun _ _ => rfl, fun _ _ => rfl, fun _ _ _ _ => rfl, fun _ _ _ _ => rfl, fun _ _ => rfl⟩
theorem cq_C.r (h : cq_C w M0 t5 t6 BR LA GN RS RB M) (e : M0.2.2 a k = some b) : M.2.2 a k = some b := by rw [h.1]; exact e
theorem cq_C.io (h : cq_C w M0 t5 t6 BR LA GN RS RB M) (n : cq_ne w a) (e : M0.1 a k = z) : M.1 a k = z := by rw [h.2.1 a n]; exact e
theorem cp_GA.tge (h : cp_GA G w) (hi : i = 125 ∨ i = 127 ∨ i = 128 ∨ (130 ≤ i ∧ i ≤ 132) ∨ (134 ≤ i ∧ i ≤ 137)) (ha : G a = (tg, n)) (e : tg ≠ 1001 ∧ tg ≠ 3100 ∧ tg ≠ 4100 ∧ tg ≠ 6100 ∧ tg ≠ 8100 ∧ tg ≠ 9100) : a ≠ w i := by
  rcases hi with z | z | z | z | z
  · subst z; exact hn_ne ha h.g125 e.1
  · subst z; exact hn_ne ha h.g127 e.2.1
  · subst z; exact hn_ne ha h.g128 e.2.2.1
  · have g := h.w130 (k := i - 130) (by omega)
    rw [show 130 + (i - 130) = i by omega] at g
    exact hn_ne ha g e.2.2.2.1
  · by_cases z2 : i = 137
    · subst z2; exact hn_ne ha h.g137 e.2.2.2.2.2
    · have g := h.w134 (k := i - 134) (by omega)
      rw [show 134 + (i - 134) = i by omega] at g
      exact hn_ne ha g e.2.2.2.2.1
theorem cp_GA.qn (h : cp_GA G w) (ha : G a = (tg, n)) (e : tg ≠ 1001 ∧ tg ≠ 3100 ∧ tg ≠ 4100 ∧ tg ≠ 6100 ∧ tg ≠ 8100 ∧ tg ≠ 9100) : cq_ne w a := fun i hi => h.tge hi ha e
theorem cq_up2 {F : Nat → Nat → Int} {c N : Nat} (inj : ∀ t', t' < 3 → t' ≠ t → w (c + t') ≠ w (c + t)) (h : ∀ t k, t < 3 → k < N → M.1 (w (c + t)) k = F t k) : ∀ t' k, t' < 3 → k < N → (mj_p0 M (w (c + t)) j v).1 (w (c + t')) k = rv_up2 F t j v t' k := fun t' k ht hk => by
  by_cases e : t' = t
  · subst e
    by_cases e2 : k = j
    · subst e2; rw [rv_up2_s]; exact hn_s
    · rw [rv_up2_n e2]; exact (hn_n (Or.inr e2)).trans (h t' k ht hk)
  · rw [rv_up2_o e]; exact (hn_n (Or.inl (inj t' ht e))).trans (h t' k ht hk)
theorem cq_C.h5 (h : cq_C w M0 t5 t6 BR LA GN RS RB M) (ga : cp_GA G w) : cq_C w M0 v t6 BR LA GN RS RB (mj_p0 M (w 125) 5 v) :=
  ⟨h.1, fun a n => (wz_c (n 125 (by omega))).trans (h.2.1 a n), fun k h5 h6 => (hn_n (Or.inr h5)).trans (h.2.2.1 k h5 h6), hn_s, (hn_n (Or.inr (by decide))).trans h.2.2.2.2.1, fun k hk => (hn_n (Or.inl (ga.ne (by omega) (by omega) (by omega)))).trans (h.2.2.2.2.2.1 k hk), fun k hk => (hn_n (Or.inl (ga.ne (by omega) (by omega) (by omega)))).trans (h.2.2.2.2.2.2.1 k hk), fun t2 k h1 h2 => (hn_n (Or.inl (ga.ne (by omega) (by omega) (by omega)))).trans (h.2.2.2.2.2.2.2.1 t2 k h1 h2), fun t2 k h1 h2 => (hn_n (Or.inl (ga.ne (by omega) (by omega) (by omega)))).trans (h.2.2.2.2.2.2.2.2.1 t2 k h1 h2), fun k hk => (hn_n (Or.inl (ga.ne (by omega) (by omega) (by omega)))).trans (h.2.2.2.2.2.2.2.2.2 k hk)⟩
theorem cq_C.h6 (h : cq_C w M0 t5 t6 BR LA GN RS RB M) (ga : cp_GA G w) : cq_C w M0 t5 v BR LA GN RS RB (mj_p0 M (w 125) 6 v) :=
  ⟨h.1, fun a n => (wz_c (n 125 (by omega))).trans (h.2.1 a n), fun k h5 h6 => (hn_n (Or.inr h6)).trans (h.2.2.1 k h5 h6), (hn_n (Or.inr (by decide))).trans h.2.2.2.1, hn_s, fun k hk => (hn_n (Or.inl (ga.ne (by omega) (by omega) (by omega)))).trans (h.2.2.2.2.2.1 k hk), fun k hk => (hn_n (Or.inl (ga.ne (by omega) (by omega) (by omega)))).trans (h.2.2.2.2.2.2.1 k hk), fun t2 k h1 h2 => (hn_n (Or.inl (ga.ne (by omega) (by omega) (by omega)))).trans (h.2.2.2.2.2.2.2.1 t2 k h1 h2), fun t2 k h1 h2 => (hn_n (Or.inl (ga.ne (by omega) (by omega) (by omega)))).trans (h.2.2.2.2.2.2.2.2.1 t2 k h1 h2), fun k hk => (hn_n (Or.inl (ga.ne (by omega) (by omega) (by omega)))).trans (h.2.2.2.2.2.2.2.2.2 k hk)⟩
theorem cq_C.h127 (h : cq_C w M0 t5 t6 BR LA GN RS RB M) (ga : cp_GA G w) : cq_C w M0 t5 t6 (rv_up BR j v) LA GN RS RB (mj_p0 M (w 127) j v) :=
  ⟨h.1, fun a n => (wz_c (n 127 (by omega))).trans (h.2.1 a n), fun k h5 h6 => (hn_n (Or.inl (ga.ne (by omega) (by omega) (by omega)))).trans (h.2.2.1 k h5 h6), (hn_n (Or.inl (ga.ne (by omega) (by omega) (by omega)))).trans h.2.2.2.1, (hn_n (Or.inl (ga.ne (by omega) (by omega) (by omega)))).trans h.2.2.2.2.1, cp_up h.2.2.2.2.2.1, fun k hk => (hn_n (Or.inl (ga.ne (by omega) (by omega) (by omega)))).trans (h.2.2.2.2.2.2.1 k hk), fun t2 k h1 h2 => (hn_n (Or.inl (ga.ne (by omega) (by omega) (by omega)))).trans (h.2.2.2.2.2.2.2.1 t2 k h1 h2), fun t2 k h1 h2 => (hn_n (Or.inl (ga.ne (by omega) (by omega) (by omega)))).trans (h.2.2.2.2.2.2.2.2.1 t2 k h1 h2), fun k hk => (hn_n (Or.inl (ga.ne (by omega) (by omega) (by omega)))).trans (h.2.2.2.2.2.2.2.2.2 k hk)⟩
theorem cq_C.h128 (h : cq_C w M0 t5 t6 BR LA GN RS RB M) (ga : cp_GA G w) : cq_C w M0 t5 t6 BR (rv_up LA j v) GN RS RB (mj_p0 M (w 128) j v) :=
  ⟨h.1, fun a n => (wz_c (n 128 (by omega))).trans (h.2.1 a n), fun k h5 h6 => (hn_n (Or.inl (ga.ne (by omega) (by omega) (by omega)))).trans (h.2.2.1 k h5 h6), (hn_n (Or.inl (ga.ne (by omega) (by omega) (by omega)))).trans h.2.2.2.1, (hn_n (Or.inl (ga.ne (by omega) (by omega) (by omega)))).trans h.2.2.2.2.1, fun k hk => (hn_n (Or.inl (ga.ne (by omega) (by omega) (by omega)))).trans (h.2.2.2.2.2.1 k hk), cp_up h.2.2.2.2.2.2.1, fun t2 k h1 h2 => (hn_n (Or.inl (ga.ne (by omega) (by omega) (by omega)))).trans (h.2.2.2.2.2.2.2.1 t2 k h1 h2), fun t2 k h1 h2 => (hn_n (Or.inl (ga.ne (by omega) (by omega) (by omega)))).trans (h.2.2.2.2.2.2.2.2.1 t2 k h1 h2), fun k hk => (hn_n (Or.inl (ga.ne (by omega) (by omega) (by omega)))).trans (h.2.2.2.2.2.2.2.2.2 k hk)⟩
theorem cq_C.h130 (h : cq_C w M0 t5 t6 BR LA GN RS RB M) (ga : cp_GA G w) (ht : t < 3) : cq_C w M0 t5 t6 BR LA (rv_up2 GN t j v) RS RB (mj_p0 M (w (130 + t)) j v) :=
  ⟨h.1, fun a n => (wz_c (n (130 + t) (by omega))).trans (h.2.1 a n), fun k h5 h6 => (hn_n (Or.inl (ga.ne (by omega) (by omega) (by omega)))).trans (h.2.2.1 k h5 h6), (hn_n (Or.inl (ga.ne (by omega) (by omega) (by omega)))).trans h.2.2.2.1, (hn_n (Or.inl (ga.ne (by omega) (by omega) (by omega)))).trans h.2.2.2.2.1, fun k hk => (hn_n (Or.inl (ga.ne (by omega) (by omega) (by omega)))).trans (h.2.2.2.2.2.1 k hk), fun k hk => (hn_n (Or.inl (ga.ne (by omega) (by omega) (by omega)))).trans (h.2.2.2.2.2.2.1 k hk), cq_up2 (fun t' h1 h2 => ga.ne (by omega) (by omega) (by omega)) h.2.2.2.2.2.2.2.1, fun t2 k h1 h2 => (hn_n (Or.inl (ga.ne (by omega) (by omega) (by omega)))).trans (h.2.2.2.2.2.2.2.2.1 t2 k h1 h2), fun k hk => (hn_n (Or.inl (ga.ne (by omega) (by omega) (by omega)))).trans (h.2.2.2.2.2.2.2.2.2 k hk)⟩
theorem cq_C.h134 (h : cq_C w M0 t5 t6 BR LA GN RS RB M) (ga : cp_GA G w) (ht : t < 3) : cq_C w M0 t5 t6 BR LA GN (rv_up2 RS t j v) RB (mj_p0 M (w (134 + t)) j v) :=
  ⟨h.1, fun a n => (wz_c (n (134 + t) (by omega))).trans (h.2.1 a n), fun k h5 h6 => (hn_n (Or.inl (ga.ne (by omega) (by omega) (by omega)))).trans (h.2.2.1 k h5 h6), (hn_n (Or.inl (ga.ne (by omega) (by omega) (by omega)))).trans h.2.2.2.1, (hn_n (Or.inl (ga.ne (by omega) (by omega) (by omega)))).trans h.2.2.2.2.1, fun k hk => (hn_n (Or.inl (ga.ne (by omega) (by omega) (by omega)))).trans (h.2.2.2.2.2.1 k hk), fun k hk => (hn_n (Or.inl (ga.ne (by omega) (by omega) (by omega)))).trans (h.2.2.2.2.2.2.1 k hk), fun t2 k h1 h2 => (hn_n (Or.inl (ga.ne (by omega) (by omega) (by omega)))).trans (h.2.2.2.2.2.2.2.1 t2 k h1 h2), cq_up2 (fun t' h1 h2 => ga.ne (by omega) (by omega) (by omega)) h.2.2.2.2.2.2.2.2.1, fun k hk => (hn_n (Or.inl (ga.ne (by omega) (by omega) (by omega)))).trans (h.2.2.2.2.2.2.2.2.2 k hk)⟩
theorem cq_C.h137 (h : cq_C w M0 t5 t6 BR LA GN RS RB M) (ga : cp_GA G w) : cq_C w M0 t5 t6 BR LA GN RS (rv_up RB j v) (mj_p0 M (w 137) j v) :=
  ⟨h.1, fun a n => (wz_c (n 137 (by omega))).trans (h.2.1 a n), fun k h5 h6 => (hn_n (Or.inl (ga.ne (by omega) (by omega) (by omega)))).trans (h.2.2.1 k h5 h6), (hn_n (Or.inl (ga.ne (by omega) (by omega) (by omega)))).trans h.2.2.2.1, (hn_n (Or.inl (ga.ne (by omega) (by omega) (by omega)))).trans h.2.2.2.2.1, fun k hk => (hn_n (Or.inl (ga.ne (by omega) (by omega) (by omega)))).trans (h.2.2.2.2.2.1 k hk), fun k hk => (hn_n (Or.inl (ga.ne (by omega) (by omega) (by omega)))).trans (h.2.2.2.2.2.2.1 k hk), fun t2 k h1 h2 => (hn_n (Or.inl (ga.ne (by omega) (by omega) (by omega)))).trans (h.2.2.2.2.2.2.2.1 t2 k h1 h2), fun t2 k h1 h2 => (hn_n (Or.inl (ga.ne (by omega) (by omega) (by omega)))).trans (h.2.2.2.2.2.2.2.2.1 t2 k h1 h2), cp_up h.2.2.2.2.2.2.2.2.2⟩
end CQ
theorem r_p1 {G : mj_G} {M0 : mj_M} {x s p q : Nat} {w : Nat → Nat} {Q : mj_P} {d : Nat} (ga : cp_GA G w) (gb : cp_BA M0 w) (hA : lq_A G w) (hB : lq_B M0 w x) (hN : lq_N M0 w p q) (hG5 : rv_G6 (M0.1 s) 0 w p M0) (hr : rv_r4 (M0.1 s) 0) (t1 : 1 ≤ M0.1 s 0) (t3 : M0.1 s 0 ≤ 3) : ∀ (n : Nat) (k : Int) (BR LA RB : Nat → Int) (GN RS : Nat → Nat → Int) (M : mj_M) (v3 v4 : Option mj_V) (cb sb : Nat), k + n = M0.1 s 0 → 0 ≤ k → cq_C w M0 (M0.1 s 0) (M0.1 s 1) BR LA GN RS RB M → RB 12 = 0 → (∀ j : Nat, (j : Int) < k → BR j = M0.1 s (10 + 9 * j) ∧ LA j = M0.1 s (8 + 9 * j) ∧ RS j 12 = 0) → (∀ (BR LA RB : Nat → Int) (GN RS : Nat → Nat → Int) (M : mj_M) (v2 v3 v4 : Option mj_V) (cb sb : Nat), cq_C w M0 (M0.1 s 0) (M0.1 s 1) BR LA GN RS RB M → RB 12 = 0 → (∀ j : Nat, (j : Int) < M0.1 s 0 → BR j = M0.1 s (10 + 9 * j) ∧ LA j = M0.1 s (8 + 9 * j) ∧ RS j 12 = 0) → wz (d + 1) mt_X0_prepare.2.2.2.2.1 Q (mt_X0_prepare.2.2.2.2.1.drop 50) [some (.inr (.inr (some (w 125)))), some (.inr (.inr (some (w p)))), v2, v3, v4] [] G M cb sb) → wz (d + 1) mt_X0_prepare.2.2.2.2.1 Q (mt_X0_prepare.2.2.2.2.1.drop 17) [some (.inr (.inr (some (w 125)))), some (.inr (.inr (some (w p)))), some (.inl k), v3, v4] [] G M cb sb := by
  obtain ⟨gpl, gna, gta, gba, gwa, gtr, gbr, itr, ibr, p0, p1, p2, p3, rt, rb⟩ := lq_K hA hB hN.pin.1
  have hG := hG5.1
  have et := cs_te hr
  have b1 := cs_r1 hr
  intro n
  induction n with
  | zero =>
    intro k BR LA RB GN RS M v3 v4 cb sb e k0 hC h12 hI h
    refine w_iln rfl ?_
    refine w_aln rfl ?_
    refine w_gi ga.g125 rfl (by decide) rfl (hC.2.2.2.1) ?_
    refine w_cmge (fun c1 => ?_) (fun c1 => ?_)
    · skip
      exact h BR LA RB GN RS M _ _ _ _ _ hC h12 (fun j hj => hI j (by omega))
    · exfalso; omega
  | succ n ih =>
    intro k BR LA RB GN RS M v3 v4 cb sb e k0 hC h12 hI h
    refine w_iln rfl ?_
    refine w_aln rfl ?_
    refine w_gi ga.g125 rfl (by decide) rfl (hC.2.2.2.1) ?_
    refine w_cmge (fun c1 => ?_) (fun c1 => ?_)
    · exfalso; omega
    · skip
      refine w_aln rfl ?_
      refine w_gr ga.g125 rfl (by decide) rfl (hC.r gb.r125_7) ?_
      refine w_iln rfl ?_
      refine w_aln rfl ?_
      refine w_gr gpl rfl (by decide) rfl (hC.r (p1)) ?_
      refine w_iln rfl ?_
      refine w_aald gta rfl (by show (0 : Int) ≤ k; omega) (by show k < ((8 : Nat) : Int); omega) (hC.r (rt _ (by show k.toNat < 8; omega))) ?_
      refine w_bp ?_
      refine w_iald (v := (M0.1 s (9 * k + 10).toNat)) (gtr _ (by show k.toNat < 8; omega)) rfl (by show (0 : Int) ≤ 6; omega) (by show 6 < ((9 : Nat) : Int); omega) (hC.io (ga.qn (gtr _ (by show k.toNat < 8; omega)) (by decide)) (lq_rT hG (by show k.toNat < 8; omega) (by show (6 : Int).toNat < 9; omega) (by show (9 * k + 10).toNat = 4 + 9 * k.toNat + (6 : Int).toNat; omega))) ?_
      refine w_iast ga.g127 rfl (by decide) (by show (0 : Int) ≤ k; omega) (by show k < ((3 : Nat) : Int); omega) ?_
      have hC2 := hC.h127 (j := k.toNat) (v := (M0.1 s (9 * k + 10).toNat)) ga
      refine w_aln rfl ?_
      refine w_gr ga.g125 rfl (by decide) rfl (hC2.r gb.r125_8) ?_
      refine w_iln rfl ?_
      refine w_aln rfl ?_
      refine w_gr gpl rfl (by decide) rfl (hC2.r (p1)) ?_
      refine w_iln rfl ?_
      refine w_aald gta rfl (by show (0 : Int) ≤ k; omega) (by show k < ((8 : Nat) : Int); omega) (hC2.r (rt _ (by show k.toNat < 8; omega))) ?_
      refine w_ic ?_
      refine w_iald (v := (M0.1 s (9 * k + 8).toNat)) (gtr _ (by show k.toNat < 8; omega)) rfl (by show (0 : Int) ≤ 4; omega) (by show 4 < ((9 : Nat) : Int); omega) (hC2.io (ga.qn (gtr _ (by show k.toNat < 8; omega)) (by decide)) (lq_rT hG (by show k.toNat < 8; omega) (by show (4 : Int).toNat < 9; omega) (by show (9 * k + 8).toNat = 4 + 9 * k.toNat + (4 : Int).toNat; omega))) ?_
      refine w_iast ga.g128 rfl (by decide) (by show (0 : Int) ≤ k; omega) (by show k < ((3 : Nat) : Int); omega) ?_
      have hC3 := hC2.h128 (j := k.toNat) (v := (M0.1 s (9 * k + 8).toNat)) ga
      refine w_aln rfl ?_
      refine w_gr ga.g125 rfl (by decide) rfl (hC3.r gb.r125_10) ?_
      refine w_iln rfl ?_
      refine w_aald ga.g133 rfl (by show (0 : Int) ≤ k; omega) (by show k < ((3 : Nat) : Int); omega) (hC3.r (gb.w134 (by show k.toNat < 3; omega))) ?_
      refine w_bp ?_
      refine w_ic ?_
      refine w_iast (ga.w134 (by omega)) rfl (by decide) (by show (0 : Int) ≤ 12; omega) (by show 12 < ((13 : Nat) : Int); omega) ?_
      have hC4 := hC3.h134 (t := k.toNat) (j := (12 : Int).toNat) (v := 0) ga (by show k.toNat < 3; omega)
      refine w_ii rfl ⟨by show (-2147483648 : Int) ≤ k + 1; omega, by show k + 1 < (2147483648 : Int); omega⟩ ?_
      show wz _ _ _ _ [some (.inr (.inr (some (w 125)))), some (.inr (.inr (some (w p)))), some (.inl (k + 1)), v3, v4] _ _ _ _ _
      refine w_goto ?_
      refine ih (k + 1) _ _ _ _ _ _ _ _ _ _ (by omega) (by omega) hC4 h12 (fun j hj => ?_) h
      by_cases ej : (j : Int) = k
      · rw [show j = k.toNat by omega, rv_up_s, rv_up_s]
        exact ⟨congrArg (M0.1 s) (by omega), congrArg (M0.1 s) (by omega), rv_up2_s⟩
      · obtain ⟨q1, q2, q3⟩ := hI j (by omega)
        exact ⟨(rv_up_n (by omega)).trans q1, (rv_up_n (by omega)).trans q2, (congrFun (rv_up2_o (by omega)) _).trans q3⟩
theorem r_p3 {G : mj_G} {M0 : mj_M} {x s p q : Nat} {w : Nat → Nat} {Q : mj_P} {d : Nat} (ga : cp_GA G w) (gb : cp_BA M0 w) (hA : lq_A G w) (hB : lq_B M0 w x) (hN : lq_N M0 w p q) (hG5 : rv_G6 (M0.1 s) 0 w p M0) (hr : rv_r4 (M0.1 s) 0) (t1 : 1 ≤ M0.1 s 0) (t3 : M0.1 s 0 ≤ 3) {BR LA RB : Nat → Int} {GN RS : Nat → Nat → Int} {mo : Int} (m0 : 0 ≤ mo) (m11 : mo ≤ 11) (hRS : ∀ t : Nat, (t : Int) < M0.1 s 0 → RS t (mo + 1).toNat = cs_all (M0.1 s) t (12 - (mo + 1).toNat) (mo + 1).toNat) : ∀ (n : Nat) (k : Int) (GN2 RS2 : Nat → Nat → Int) (M : mj_M) (cb sb : Nat), k + n = M0.1 s 0 → 0 ≤ k → cq_C w M0 (M0.1 s 0) (M0.1 s 1) BR LA GN2 RS2 RB M → (∀ t : Nat, (t : Int) < k → GN2 t mo.toNat = cs_gain (M0.1 s) t mo.toNat ∧ RS2 t mo.toNat = cs_all (M0.1 s) t (12 - mo.toNat) mo.toNat) ∧ (∀ t j : Nat, (j : Int) ≠ mo → GN2 t j = GN t j ∧ RS2 t j = RS t j) → (∀ (GN2 RS2 : Nat → Nat → Int) (M : mj_M) (v4 : Option mj_V) (cb sb : Nat), cq_C w M0 (M0.1 s 0) (M0.1 s 1) BR LA GN2 RS2 RB M → (∀ t : Nat, (t : Int) < M0.1 s 0 → GN2 t mo.toNat = cs_gain (M0.1 s) t mo.toNat ∧ RS2 t mo.toNat = cs_all (M0.1 s) t (12 - mo.toNat) mo.toNat) ∧ (∀ t j : Nat, (j : Int) ≠ mo → GN2 t j = GN t j ∧ RS2 t j = RS t j) → wz (d + 1) mt_X0_prepare.2.2.2.2.1 Q (mt_X0_prepare.2.2.2.2.1.drop 104) [some (.inr (.inr (some (w 125)))), some (.inr (.inr (some (w p)))), some (.inl mo), some (.inl (cs_most (M0.1 s) mo.toNat (cs_t (M0.1 s)))), v4] [] G M cb sb) → wz (d + 1) mt_X0_prepare.2.2.2.2.1 Q (mt_X0_prepare.2.2.2.2.1.drop 58) [some (.inr (.inr (some (w 125)))), some (.inr (.inr (some (w p)))), some (.inl mo), some (.inl (cs_most (M0.1 s) mo.toNat k.toNat)), some (.inl k)] [] G M cb sb := by
  obtain ⟨gpl, gna, gta, gba, gwa, gtr, gbr, itr, ibr, p0, p1, p2, p3, rt, rb⟩ := lq_K hA hB hN.pin.1
  have hG := hG5.1
  have et := cs_te hr
  have b1 := cs_r1 hr
  have bw := cs_rw hr (j := (mo + 76).toNat) (by omega) (by omega)
  intro n
  induction n with
  | zero =>
    intro k GN2 RS2 M cb sb e k0 hC hI h
    obtain ⟨hI1, hI2⟩ := hI
    rw [show k.toNat = cs_t (M0.1 s) by omega]
    refine w_il rfl ?_
    refine w_aln rfl ?_
    refine w_gi ga.g125 rfl (by decide) rfl (hC.2.2.2.1) ?_
    refine w_cmge (fun c1 => ?_) (fun c1 => ?_)
    · skip
      exact h GN2 RS2 M _ _ _ hC ⟨fun t ht => hI1 t (by omega), hI2⟩
    · exfalso; omega
  | succ n ih =>
    intro k GN2 RS2 M cb sb e k0 hC hI h
    obtain ⟨hI1, hI2⟩ := hI
    have bt := cs_rt hr (j := (9 * k + 4).toNat) (by omega) (by omega)
    have hrs := hRS k.toNat (by omega)
    have hrs2 : RS2 k.toNat (mo + 1).toNat = cs_all (M0.1 s) k.toNat (12 - (mo + 1).toNat) (mo + 1).toNat := ((hI2 _ _ (by omega)).2).trans hrs
    have al := cs_all_9 hr (k := k.toNat) (by omega) (12 - (mo + 1).toNat) (mo + 1).toNat (by omega)
    have gi := cs_gain_i (H := M0.1 s) k0 m0
    have ms := cs_most_0 (H := M0.1 s) mo.toNat k.toNat
    have ms9 : cs_most (M0.1 s) mo.toNat k.toNat ≤ 999 := cs_most_9 hr (by omega) _ (by omega)
    have em : 12 - mo.toNat = 12 - (mo + 1).toNat + 1 := by omega
    have ek : (k + 1).toNat = k.toNat + 1 := by omega
    refine w_il rfl ?_
    refine w_aln rfl ?_
    refine w_gi ga.g125 rfl (by decide) rfl (hC.2.2.2.1) ?_
    refine w_cmge (fun c1 => ?_) (fun c1 => ?_)
    · exfalso; omega
    · skip
      refine w_aln rfl ?_
      refine w_gr ga.g125 rfl (by decide) rfl (hC.r gb.r125_9) ?_
      refine w_il rfl ?_
      refine w_aald ga.g129 rfl (by show (0 : Int) ≤ k; omega) (by show k < ((3 : Nat) : Int); omega) (hC.r (gb.w130 (by show k.toNat < 3; omega))) ?_
      refine w_iln rfl ?_
      refine w_aln rfl ?_
      refine w_il rfl ?_
      refine w_iln rfl ?_
      refine w_cv (st := [.inl mo, .inr (.inr (some (w (130 + k.toNat))))]) rfl gpl rfl (Nat.le_of_ble_eq_true rfl) (fun kk h => h) ⟨Nat.le_of_ble_eq_true rfl, ?_⟩
      show wz (d) mt_X3_gain.2.2.2.2.1 _ mt_X3_gain.2.2.2.2.1 [some (.inr (.inr (some (w p)))), some (.inl k), some (.inl mo)] [] _ _ _ _
      refine w_ic ?_
      refine w_aln rfl ?_
      refine w_gr gpl rfl (by decide) rfl (hC.r (p3)) ?_
      refine w_iln rfl ?_
      refine w_iald (v := (M0.1 s (mo + 76).toNat)) gwa rfl (by show (0 : Int) ≤ mo; omega) (by show mo < ((12 : Nat) : Int); omega) (hC.io (ga.qn gwa (by decide)) (lq_rW hG (by show mo.toNat < 12; omega) (by show (mo + 76).toNat = 76 + mo.toNat; omega))) ?_
      refine w_aln rfl ?_
      refine w_gr gpl rfl (by decide) rfl (hC.r (p1)) ?_
      refine w_iln rfl ?_
      refine w_aald gta rfl (by show (0 : Int) ≤ k; omega) (by show k < ((8 : Nat) : Int); omega) (hC.r (rt _ (by show k.toNat < 8; omega))) ?_
      refine w_ic ?_
      refine w_iald (v := (M0.1 s (9 * k + 4).toNat)) (gtr _ (by show k.toNat < 8; omega)) rfl (by show (0 : Int) ≤ 0; omega) (by show 0 < ((9 : Nat) : Int); omega) (hC.io (ga.qn (gtr _ (by show k.toNat < 8; omega)) (by decide)) (lq_rT hG (by show k.toNat < 8; omega) (by show (0 : Int).toNat < 9; omega) (by show (9 * k + 4).toNat = 4 + 9 * k.toNat + (0 : Int).toNat; omega))) ?_
      refine w_sub ⟨by show (-2147483648 : Int) ≤ (M0.1 s (mo + 76).toNat) - (M0.1 s (9 * k + 4).toNat); omega, by show (M0.1 s (mo + 76).toNat) - (M0.1 s (9 * k + 4).toNat) < (2147483648 : Int); omega⟩ ?_
      refine w_max (Nat.le_of_ble_eq_true rfl) ?_
      intro z2 fz2 gz2
      refine w_iret (fun q => by cases q) ?_
      refine w_iast (ga.w130 (by omega)) rfl (by decide) (by show (0 : Int) ≤ mo; omega) (by show mo < ((12 : Nat) : Int); omega) ?_
      have hC3 := hC.h130 (t := k.toNat) (j := mo.toNat) (v := z2) ga (by show k.toNat < 3; omega)
      refine w_aln rfl ?_
      refine w_gr ga.g125 rfl (by decide) rfl (hC3.r gb.r125_10) ?_
      refine w_il rfl ?_
      refine w_aald ga.g133 rfl (by show (0 : Int) ≤ k; omega) (by show k < ((3 : Nat) : Int); omega) (hC3.r (gb.w134 (by show k.toNat < 3; omega))) ?_
      refine w_iln rfl ?_
      refine w_aln rfl ?_
      refine w_gr ga.g125 rfl (by decide) rfl (hC3.r gb.r125_10) ?_
      refine w_il rfl ?_
      refine w_aald ga.g133 rfl (by show (0 : Int) ≤ k; omega) (by show k < ((3 : Nat) : Int); omega) (hC3.r (gb.w134 (by show k.toNat < 3; omega))) ?_
      refine w_iln rfl ?_
      refine w_ic ?_
      refine w_add ⟨by show (-2147483648 : Int) ≤ mo + 1; omega, by show mo + 1 < (2147483648 : Int); omega⟩ ?_
      refine w_iald (v := (RS2 k.toNat (mo + 1).toNat)) (ga.w134 (by omega)) rfl (by show (0 : Int) ≤ mo + 1; omega) (by show mo + 1 < ((13 : Nat) : Int); omega) (hC3.2.2.2.2.2.2.2.2.1 _ _ (by show k.toNat < 3; omega) (by show (mo + 1).toNat < 13; omega)) ?_
      refine w_aln rfl ?_
      refine w_gr ga.g125 rfl (by decide) rfl (hC3.r gb.r125_9) ?_
      refine w_il rfl ?_
      refine w_aald ga.g129 rfl (by show (0 : Int) ≤ k; omega) (by show k < ((3 : Nat) : Int); omega) (hC3.r (gb.w130 (by show k.toNat < 3; omega))) ?_
      refine w_iln rfl ?_
      refine w_iald (v := z2) (ga.w130 (by omega)) rfl (by show (0 : Int) ≤ mo; omega) (by show mo < ((12 : Nat) : Int); omega) ((hC3.2.2.2.2.2.2.2.1 _ _ (by show k.toNat < 3; omega) (by show mo.toNat < 12; omega)).trans rv_up2_s) ?_
      refine w_add ⟨by show (-2147483648 : Int) ≤ (RS2 k.toNat (mo + 1).toNat) + z2; omega, by show (RS2 k.toNat (mo + 1).toNat) + z2 < (2147483648 : Int); omega⟩ ?_
      refine w_iast (ga.w134 (by omega)) rfl (by decide) (by show (0 : Int) ≤ mo; omega) (by show mo < ((13 : Nat) : Int); omega) ?_
      have hC4 := hC3.h134 (t := k.toNat) (j := mo.toNat) (v := (RS2 k.toNat (mo + 1).toNat) + z2) ga (by show k.toNat < 3; omega)
      refine w_iln rfl ?_
      refine w_aln rfl ?_
      refine w_gr ga.g125 rfl (by decide) rfl (hC4.r gb.r125_9) ?_
      refine w_il rfl ?_
      refine w_aald ga.g129 rfl (by show (0 : Int) ≤ k; omega) (by show k < ((3 : Nat) : Int); omega) (hC4.r (gb.w130 (by show k.toNat < 3; omega))) ?_
      refine w_iln rfl ?_
      refine w_iald (v := z2) (ga.w130 (by omega)) rfl (by show (0 : Int) ≤ mo; omega) (by show mo < ((12 : Nat) : Int); omega) ((hC4.2.2.2.2.2.2.2.1 _ _ (by show k.toNat < 3; omega) (by show mo.toNat < 12; omega)).trans rv_up2_s) ?_
      refine w_max (Nat.le_of_ble_eq_true rfl) ?_
      intro z5 fz5 gz5
      refine w_isn ?_
      show wz _ _ _ _ [some (.inr (.inr (some (w 125)))), some (.inr (.inr (some (w p)))), some (.inl mo), some (.inl z5), some (.inl k)] _ _ _ _ _
      refine w_ii rfl ⟨by show (-2147483648 : Int) ≤ k + 1; omega, by show k + 1 < (2147483648 : Int); omega⟩ ?_
      show wz _ _ _ _ [some (.inr (.inr (some (w 125)))), some (.inr (.inr (some (w p)))), some (.inl mo), some (.inl z5), some (.inl (k + 1))] _ _ _ _ _
      refine w_goto ?_
      have eg : z2 = cs_gain (M0.1 s) k.toNat mo.toNat := by rw [gi]; split <;> omega
      have ers : (RS2 k.toNat (mo + 1).toNat) + z2 = cs_all (M0.1 s) k.toNat (12 - mo.toNat) mo.toNat := by
        rw [em]
        show _ = cs_gain (M0.1 s) k.toNat mo.toNat + cs_all (M0.1 s) k.toNat (12 - (mo + 1).toNat) (mo.toNat + 1)
        rw [show mo.toNat + 1 = (mo + 1).toNat by omega, ← hrs2]; omega
      have ems : z5 = cs_most (M0.1 s) mo.toNat (k + 1).toNat := by
        rw [ek]
        show _ = max (cs_most (M0.1 s) mo.toNat k.toNat) (cs_gain (M0.1 s) k.toNat mo.toNat)
        omega
      rw [ems]
      refine ih (k + 1) _ _ _ _ _ (by omega) (by omega) hC4 ⟨fun t ht => ?_, fun t j hj => ?_⟩ h
      · by_cases ej : (t : Int) = k
        · rw [show t = k.toNat by omega, rv_up2_s, rv_up2_s]; exact ⟨eg, ers⟩
        · rw [rv_up2_o (by omega), rv_up2_o (by omega)]; exact hI1 t (by omega)
      · rw [rv_up2_x (by omega), rv_up2_x (by omega)]; exact hI2 t j hj
theorem r_p2 {G : mj_G} {M0 : mj_M} {x s p q : Nat} {w : Nat → Nat} {Q : mj_P} {d : Nat} (ga : cp_GA G w) (gb : cp_BA M0 w) (hA : lq_A G w) (hB : lq_B M0 w x) (hN : lq_N M0 w p q) (hG5 : rv_G6 (M0.1 s) 0 w p M0) (hr : rv_r4 (M0.1 s) 0) (t1 : 1 ≤ M0.1 s 0) (t3 : M0.1 s 0 ≤ 3) : ∀ (n : Nat) (mo : Int) (BR LA RB : Nat → Int) (GN RS : Nat → Nat → Int) (M : mj_M) (v3 v4 : Option mj_V) (cb sb : Nat), mo + 1 = n → n ≤ 12 → cq_C w M0 (M0.1 s 0) (M0.1 s 1) BR LA GN RS RB M → (∀ j : Nat, (j : Int) < M0.1 s 0 → BR j = M0.1 s (10 + 9 * j) ∧ LA j = M0.1 s (8 + 9 * j)) ∧ (∀ t i : Nat, (t : Int) < M0.1 s 0 → mo < (i : Int) → i < 12 → GN t i = cs_gain (M0.1 s) t i) ∧ (∀ t i : Nat, (t : Int) < M0.1 s 0 → mo < (i : Int) → i ≤ 12 → RS t i = cs_all (M0.1 s) t (12 - i) i) ∧ (∀ i : Nat, mo < (i : Int) → i ≤ 12 → RB i = cs_bestof (M0.1 s) (12 - i) i) → (∀ (BR LA RB : Nat → Int) (GN RS : Nat → Nat → Int) (M : mj_M), cq_C w M0 (M0.1 s 0) (M0.1 s 1) BR LA GN RS RB M → (∀ j : Nat, (j : Int) < M0.1 s 0 → BR j = M0.1 s (10 + 9 * j) ∧ LA j = M0.1 s (8 + 9 * j)) ∧ (∀ t i : Nat, (t : Int) < M0.1 s 0 → (-1) < (i : Int) → i < 12 → GN t i = cs_gain (M0.1 s) t i) ∧ (∀ t i : Nat, (t : Int) < M0.1 s 0 → (-1) < (i : Int) → i ≤ 12 → RS t i = cs_all (M0.1 s) t (12 - i) i) ∧ (∀ i : Nat, (-1) < (i : Int) → i ≤ 12 → RB i = cs_bestof (M0.1 s) (12 - i) i) → Q none G M) → wz (d + 1) mt_X0_prepare.2.2.2.2.1 Q (mt_X0_prepare.2.2.2.2.1.drop 52) [some (.inr (.inr (some (w 125)))), some (.inr (.inr (some (w p)))), some (.inl mo), v3, v4] [] G M cb sb := by
  obtain ⟨gpl, gna, gta, gba, gwa, gtr, gbr, itr, ibr, p0, p1, p2, p3, rt, rb⟩ := lq_K hA hB hN.pin.1
  have hG := hG5.1
  have et := cs_te hr
  have b1 := cs_r1 hr
  intro n
  induction n with
  | zero =>
    intro mo BR LA RB GN RS M v3 v4 cb sb e en hC hI h
    obtain rfl : mo = -1 := by omega
    refine w_iln rfl ?_
    refine w_iflt (fun c1 => ?_) (fun c1 => ?_)
    · skip
      exact w_ret (h BR LA RB GN RS M hC hI)
    · exfalso; omega
  | succ n ih =>
    intro mo BR LA RB GN RS M v3 v4 cb sb e en hC hI h
    obtain ⟨hI1, hI2, hI3, hI4⟩ := hI
    have ms := cs_most_0 (H := M0.1 s) mo.toNat (cs_t (M0.1 s))
    have ms9 : cs_most (M0.1 s) mo.toNat (cs_t (M0.1 s)) ≤ 999 := cs_most_9 hr (by omega) _ (by omega)
    have hrb := hI4 (mo + 1).toNat (by omega) (by omega)
    have bo := cs_bo_9 hr (12 - (mo + 1).toNat) (mo + 1).toNat (by omega)
    have em : 12 - mo.toNat = 12 - (mo + 1).toNat + 1 := by omega
    refine w_iln rfl ?_
    refine w_iflt (fun c1 => ?_) (fun c1 => ?_)
    · exfalso; omega
    · skip
      refine w_ic ?_
      refine w_isn ?_
      show wz _ _ _ _ [some (.inr (.inr (some (w 125)))), some (.inr (.inr (some (w p)))), some (.inl mo), some (.inl 0), v4] _ _ _ _ _
      refine w_ic ?_
      refine w_is ?_
      show wz _ _ _ _ [some (.inr (.inr (some (w 125)))), some (.inr (.inr (some (w p)))), some (.inl mo), some (.inl 0), some (.inl 0)] _ _ _ _ _
      refine r_p3 ga gb hA hB hN hG5 hr t1 t3 (mo := mo) (BR := BR) (LA := LA) (RB := RB) (GN := GN) (RS := RS) (by omega) (by omega) (fun t ht => hI3 t _ ht (by omega) (by omega)) (cs_t (M0.1 s)) 0 GN RS _ _ _ (by omega) (by decide) hC ⟨fun t ht => absurd ht (by omega), fun _ _ _ => ⟨rfl, rfl⟩⟩ (fun GN2 RS2 M2 v4 cb sb hC2 hJ => ?_)
      obtain ⟨hJ1, hJ2⟩ := hJ
      refine w_aln rfl ?_
      refine w_gr ga.g125 rfl (by decide) rfl (hC2.r gb.r125_11) ?_
      refine w_iln rfl ?_
      refine w_aln rfl ?_
      refine w_gr ga.g125 rfl (by decide) rfl (hC2.r gb.r125_11) ?_
      refine w_iln rfl ?_
      refine w_ic ?_
      refine w_add ⟨by show (-2147483648 : Int) ≤ mo + 1; omega, by show mo + 1 < (2147483648 : Int); omega⟩ ?_
      refine w_iald (v := (RB (mo + 1).toNat)) ga.g137 rfl (by show (0 : Int) ≤ mo + 1; omega) (by show mo + 1 < ((13 : Nat) : Int); omega) (hC2.2.2.2.2.2.2.2.2.2 _ (by show (mo + 1).toNat < 13; omega)) ?_
      refine w_iln rfl ?_
      refine w_add ⟨by show (-2147483648 : Int) ≤ (RB (mo + 1).toNat) + (cs_most (M0.1 s) mo.toNat (cs_t (M0.1 s))); omega, by show (RB (mo + 1).toNat) + (cs_most (M0.1 s) mo.toNat (cs_t (M0.1 s))) < (2147483648 : Int); omega⟩ ?_
      refine w_iast ga.g137 rfl (by decide) (by show (0 : Int) ≤ mo; omega) (by show mo < ((13 : Nat) : Int); omega) ?_
      have hC2 := hC2.h137 (j := mo.toNat) (v := (RB (mo + 1).toNat) + (cs_most (M0.1 s) mo.toNat (cs_t (M0.1 s)))) ga
      refine w_ii rfl ⟨by show (-2147483648 : Int) ≤ mo + (-1); omega, by show mo + (-1) < (2147483648 : Int); omega⟩ ?_
      show wz _ _ _ _ [some (.inr (.inr (some (w 125)))), some (.inr (.inr (some (w p)))), some (.inl (mo + (-1))), some (.inl (cs_most (M0.1 s) mo.toNat (cs_t (M0.1 s)))), v4] _ _ _ _ _
      refine w_goto ?_
      refine ih (mo - 1) _ _ _ _ _ _ _ _ _ _ (by omega) (by omega) hC2 ⟨hI1, fun t i h1 h2 h3 => ?_, fun t i h1 h2 h3 => ?_, fun i h2 h3 => ?_⟩ h
      · by_cases ej : (i : Int) = mo
        · rw [show i = mo.toNat by omega]; exact (hJ1 t h1).1
        · rw [(hJ2 t i ej).1]; exact hI2 t i h1 (by omega) h3
      · by_cases ej : (i : Int) = mo
        · rw [show i = mo.toNat by omega]; exact (hJ1 t h1).2
        · rw [(hJ2 t i ej).2]; exact hI3 t i h1 (by omega) h3
      · by_cases ej : (i : Int) = mo
        · rw [show i = mo.toNat by omega, rv_up_s, hrb, em]
          show _ = cs_bestof (M0.1 s) (12 - (mo + 1).toNat) (mo.toNat + 1) + cs_most (M0.1 s) mo.toNat (cs_t (M0.1 s))
          rw [show mo.toNat + 1 = (mo + 1).toNat by omega]
        · rw [rv_up_n (by omega)]; exact hI4 i (by omega) h3
theorem r_X0_prepare {G : mj_G} {M0 : mj_M} {x s p q : Nat} {w : Nat → Nat} {Q : mj_P} {d : Nat} (ga : cp_GA G w) (gb : cp_BA M0 w) (hA : lq_A G w) (hB : lq_B M0 w x) (hN : lq_N M0 w p q) (hG5 : rv_G6 (M0.1 s) 0 w p M0) (hr : rv_r4 (M0.1 s) 0) (t1 : 1 ≤ M0.1 s 0) (t3 : M0.1 s 0 ≤ 3) (h : ∀ (BR LA RB : Nat → Int) (GN RS : Nat → Nat → Int) (M : mj_M), cq_C w M0 (M0.1 s 0) (M0.1 s 1) BR LA GN RS RB M → (∀ j : Nat, (j : Int) < M0.1 s 0 → BR j = M0.1 s (10 + 9 * j) ∧ LA j = M0.1 s (8 + 9 * j)) ∧ (∀ t i : Nat, (t : Int) < M0.1 s 0 → (-1) < (i : Int) → i < 12 → GN t i = cs_gain (M0.1 s) t i) ∧ (∀ t i : Nat, (t : Int) < M0.1 s 0 → (-1) < (i : Int) → i ≤ 12 → RS t i = cs_all (M0.1 s) t (12 - i) i) ∧ (∀ i : Nat, (-1) < (i : Int) → i ≤ 12 → RB i = cs_bestof (M0.1 s) (12 - i) i) → Q none G M) : mj_R mj_tab (d + 2) 10 [.inr (.inr (some (w 125))), .inr (.inr (some (w p)))] G M0 Q := by
  obtain ⟨gpl, gna, gta, gba, gwa, gtr, gbr, itr, ibr, p0, p1, p2, p3, rt, rb⟩ := lq_K hA hB hN.pin.1
  have hG := hG5.1
  have et := cs_te hr
  have b1 := cs_r1 hr
  have hC := cq_C.re (w := w) (M := M0)
  obtain ⟨t5, ht5⟩ : ∃ F, F = M0.1 (w 125) 5 := ⟨_, rfl⟩
  obtain ⟨t6, ht6⟩ : ∃ F, F = M0.1 (w 125) 6 := ⟨_, rfl⟩
  obtain ⟨BR, hBR⟩ : ∃ F, F = M0.1 (w 127) := ⟨_, rfl⟩
  obtain ⟨LA, hLA⟩ : ∃ F, F = M0.1 (w 128) := ⟨_, rfl⟩
  obtain ⟨RB, hRB⟩ : ∃ F, F = M0.1 (w 137) := ⟨_, rfl⟩
  obtain ⟨GN, hGN⟩ : ∃ F : Nat → Nat → Int, F = fun t => M0.1 (w (130 + t)) := ⟨_, rfl⟩
  obtain ⟨RS, hRS⟩ : ∃ F : Nat → Nat → Int, F = fun t => M0.1 (w (134 + t)) := ⟨_, rfl⟩
  rw [← ht5, ← ht6, ← hBR, ← hLA, ← hRB, ← hGN, ← hRS] at hC
  refine ⟨Nat.le_of_ble_eq_true rfl, ?_⟩
  show wz (d + 1) mt_X0_prepare.2.2.2.2.1 Q mt_X0_prepare.2.2.2.2.1 [some (.inr (.inr (some (w 125)))), some (.inr (.inr (some (w p)))), none, none, none] [] G M0 _ _
  refine w_aln rfl ?_
  refine w_aln rfl ?_
  refine w_gi gpl rfl (by decide) rfl (hC.io (ga.qn gpl (by decide)) (hG.1.symm)) ?_
  refine w_ic ?_
  refine w_min (Nat.le_of_ble_eq_true rfl) ?_
  intro z1 fz1 gz1
  refine w_pi ga.g125 rfl (by decide) rfl (fun q => by cases q) ?_
  have hC2 := hC.h5 (v := z1) ga
  refine w_aln rfl ?_
  refine w_aln rfl ?_
  refine w_gi gpl rfl (by decide) rfl (hC2.io (ga.qn gpl (by decide)) (hG.2.1.symm)) ?_
  refine w_pi ga.g125 rfl (by decide) rfl (fun q => by cases q) ?_
  have hC3 := hC2.h6 (v := (M0.1 s 1)) ga
  refine w_aln rfl ?_
  refine w_gr ga.g125 rfl (by decide) rfl (hC3.r gb.r125_11) ?_
  refine w_bp ?_
  refine w_ic ?_
  refine w_iast ga.g137 rfl (by decide) (by show (0 : Int) ≤ 12; omega) (by show 12 < ((13 : Nat) : Int); omega) ?_
  have hC4 := hC3.h137 (j := (12 : Int).toNat) (v := 0) ga
  refine w_ic ?_
  refine w_isn ?_
  show wz _ _ _ _ [some (.inr (.inr (some (w 125)))), some (.inr (.inr (some (w p)))), some (.inl 0), none, none] _ _ _ _ _
  obtain rfl : z1 = M0.1 s 0 := by omega
  refine r_p1 ga gb hA hB hN hG5 hr t1 t3 (cs_t (M0.1 s)) 0 _ _ _ _ _ _ _ _ _ _ (by omega) (by decide) hC4 (show rv_up RB (12 : Int).toNat 0 12 = 0 from rv_up_s) (fun j hj => absurd hj (by omega)) (fun BR LA RB GN RS M v2 v3 v4 cb sb hC2 g12 hI => ?_)
  refine w_bp ?_
  refine w_isn ?_
  exact r_p2 ga gb hA hB hN hG5 hr t1 t3 12 11 BR LA RB GN RS M _ _ _ _ (by decide) (by decide) hC2 ⟨fun j hj => ⟨(hI j hj).1, (hI j hj).2.1⟩, fun t i h1 h2 h3 => by omega, fun t i h1 h2 h3 => by rw [show i = 12 by omega]; exact (hI t h1).2.2, fun i h2 h3 => by rw [show i = 12 by omega]; exact g12⟩ h
