/-! ===== a MONTH of the reference (laid by a program) ===== -/
/-- the reference's s: the PLAIN and CONTRACTS stay (H), nobody's pond leaks -/
def yq_L (G : mj_G) (M0 : mj_M) (s m : Nat) (H : Nat → Int) : Prop := G m = (1012, 0) ∧ G s = (51100, 537) ∧ M0.2.2 m 6 = some s ∧ (∀ j, j < 221 → M0.1 s j = H j) ∧ M0.1 m 32 = -1
def yq_S (s m : Nat) (M0 : mj_M) (g A B C : Nat → Int) (R : Nat → Nat → Int) (L O P : Int) (M : mj_M) : Prop := M.2 = M0.2 ∧ (∀ a, a ≠ s → a ≠ m → M.1 a = M0.1 a) ∧ (∀ k, k ≠ 29 → k ≠ 30 → k ≠ 31 → M.1 m k = M0.1 m k) ∧ (M.1 m 29 = L ∧ M.1 m 30 = O ∧ M.1 m 31 = P) ∧ (∀ j, j < 222 ∨ (356 ≤ j ∧ j < 537) → M.1 s j = M0.1 s j) ∧ (∀ j, 222 ≤ j → j < 232 → M.1 s j = g j) ∧ (∀ j, j < 12 → M.1 s (320 + 3 * j) = A j ∧ M.1 s (321 + 3 * j) = B j ∧ M.1 s (322 + 3 * j) = C j) ∧ (∀ t w, t < 8 → w < 11 → M.1 s (232 + 11 * t + w) = R t w)
section YQ
variable {G : mj_G} {M M0 : mj_M} {s m : Nat} {H : Nat → Int} {g g2 A B C A2 B2 C2 : Nat → Int} {R R2 : Nat → Nat → Int} {r : Nat → Int} {L O P z : Int} {a b j k t w i n : Nat} {v : Int}
theorem yq_L.gm (h : yq_L G M0 s m H) : G m = (1012, 0) := h.1
theorem yq_L.gs (h : yq_L G M0 s m H) : G s = (51100, 537) := h.2.1
theorem yq_L.m6 (h : yq_L G M0 s m H) : M0.2.2 m 6 = some s := h.2.2.1
theorem yq_L.vn (h : yq_L G M0 s m H) (hj : j < 221) : M0.1 s j = H j := h.2.2.2.1 j hj
theorem yq_L.lk (h : yq_L G M0 s m H) : M0.1 m 32 = -1 := h.2.2.2.2
theorem yq_L.sm (h : yq_L G M0 s m H) : s ≠ m := hn_ne h.gs h.gm (by decide)
theorem yq_S.vr (h : yq_S s m M0 g A B C R L O P M) (e : M0.2.2 a k = some b) : M.2.2 a k = some b := by rw [h.1]; exact e
theorem yq_S.vn (h : yq_S s m M0 g A B C R L O P M) (hL : yq_L G M0 s m H) (e : j = k) (hk : k < 221) : M.1 s j = H k := by rw [e]; exact (h.2.2.2.2.1 k (Or.inl (by omega))).trans (hL.vn hk)
theorem yq_S.vg (h : yq_S s m M0 g A B C R L O P M) (h1 : 222 ≤ k) (h2 : k < 232) : M.1 s k = g k := h.2.2.2.2.2.1 k h1 h2
theorem yq_S.vA (h : yq_S s m M0 g A B C R L O P M) (e : j = 320 + 3 * k) (hk : k < 12) : M.1 s j = A k := by rw [e]; exact (h.2.2.2.2.2.2.1 k hk).1
theorem yq_S.vB (h : yq_S s m M0 g A B C R L O P M) (e : j = 321 + 3 * k) (hk : k < 12) : M.1 s j = B k := by rw [e]; exact (h.2.2.2.2.2.2.1 k hk).2.1
theorem yq_S.vR (h : yq_S s m M0 g A B C R L O P M) (e : j = 232 + 11 * t + w) (ht : t < 8) (hw : w < 11) : M.1 s j = R t w := by rw [e]; exact h.2.2.2.2.2.2.2 t w ht hw
theorem yq_S.rr (h : yq_S s m M0 g A B C (ye_ru R t r) L O P M) (e : j = 232 + 11 * t + w) (ht : t < 8) (hw : w < 11) : M.1 s j = r w := (h.vR e ht hw).trans (by rw [ye_ru_s])
theorem yq_S.op (t : Nat) (h : yq_S s m M0 g A B C R L O P M) : yq_S s m M0 g A B C (ye_ru R t (R t)) L O P M := by rw [ye_ru_o]; exact h
theorem yq_S.cg (h : yq_S s m M0 g A B C R L O P M) (hg : ∀ j, 222 ≤ j → j < 232 → g j = g2 j) (hR : ∀ t w, t < 8 → w < 11 → R t w = R2 t w) : yq_S s m M0 g2 A B C R2 L O P M := ⟨h.1, h.2.1, h.2.2.1, h.2.2.2.1, h.2.2.2.2.1, fun j h1 h2 => (h.2.2.2.2.2.1 j h1 h2).trans (hg j h1 h2), h.2.2.2.2.2.2.1, fun t w ht hw => (h.2.2.2.2.2.2.2 t w ht hw).trans (hR t w ht hw)⟩
theorem yq_S.pg (h : yq_S s m M0 g A B C R L O P M) (hL : yq_L G M0 s m H) (h1 : 222 ≤ k) (h2 : k < 232) (e : j = k) : yq_S s m M0 (rv_up g k v) A B C R L O P (mj_p0 M s j v) := by
  subst e
  refine ⟨h.1, fun a a1 a2 => (wz_c a1).trans (h.2.1 a a1 a2), fun k k1 k2 k3 => (congrFun (wz_c hL.sm.symm) k).trans (h.2.2.1 k k1 k2 k3), ⟨(congrFun (wz_c hL.sm.symm) _).trans h.2.2.2.1.1, (congrFun (wz_c hL.sm.symm) _).trans h.2.2.2.1.2.1, (congrFun (wz_c hL.sm.symm) _).trans h.2.2.2.1.2.2⟩, fun i hi => (hn_n (Or.inr (by omega))).trans (h.2.2.2.2.1 i hi), fun i i1 i2 => ?_, fun i hi => ⟨(hn_n (Or.inr (by omega))).trans (h.2.2.2.2.2.2.1 i hi).1, (hn_n (Or.inr (by omega))).trans (h.2.2.2.2.2.2.1 i hi).2.1, (hn_n (Or.inr (by omega))).trans (h.2.2.2.2.2.2.1 i hi).2.2⟩, fun t w ht hw => (hn_n (Or.inr (by omega))).trans (h.2.2.2.2.2.2.2 t w ht hw)⟩
  by_cases q : i = j
  · rw [q, rv_up_s]; exact hn_s
  · rw [rv_up_n q]; exact (hn_n (Or.inr q)).trans (h.2.2.2.2.2.1 i i1 i2)
theorem yq_S.pr (h : yq_S s m M0 g A B C (ye_ru R t r) L O P M) (hL : yq_L G M0 s m H) (e : j = 232 + 11 * t + w) (ht : t < 8) (hw : w < 11) : yq_S s m M0 g A B C (ye_ru R t (rv_up r w v)) L O P (mj_p0 M s j v) := by
  subst e
  refine ⟨h.1, fun a a1 a2 => (wz_c a1).trans (h.2.1 a a1 a2), fun k k1 k2 k3 => (congrFun (wz_c hL.sm.symm) k).trans (h.2.2.1 k k1 k2 k3), ⟨(congrFun (wz_c hL.sm.symm) _).trans h.2.2.2.1.1, (congrFun (wz_c hL.sm.symm) _).trans h.2.2.2.1.2.1, (congrFun (wz_c hL.sm.symm) _).trans h.2.2.2.1.2.2⟩, fun i hi => (hn_n (Or.inr (by omega))).trans (h.2.2.2.2.1 i hi), fun i i1 i2 => (hn_n (Or.inr (by omega))).trans (h.2.2.2.2.2.1 i i1 i2), fun i hi => ⟨(hn_n (Or.inr (by omega))).trans (h.2.2.2.2.2.2.1 i hi).1, (hn_n (Or.inr (by omega))).trans (h.2.2.2.2.2.2.1 i hi).2.1, (hn_n (Or.inr (by omega))).trans (h.2.2.2.2.2.2.1 i hi).2.2⟩, fun t2 w2 ht2 hw2 => ?_⟩
  by_cases q : t2 = t
  · subst q
    rw [ye_ru_s]
    by_cases q2 : w2 = w
    · subst q2; rw [rv_up_s]; exact hn_s
    · rw [rv_up_n q2]; exact (hn_n (Or.inr (by omega))).trans (h.rr rfl ht hw2)
  · rw [ye_ru_n q]
    exact (hn_n (Or.inr (by omega))).trans ((h.vR rfl ht2 hw2).trans (by rw [ye_ru_n q]))
theorem yq_S.pA (h : yq_S s m M0 g A B C R L O P M) (hL : yq_L G M0 s m H) (e : j = 320 + 3 * k) (hk : k < 12) : yq_S s m M0 g (rv_up A k v) B C R L O P (mj_p0 M s j v) := by
  subst e
  refine ⟨h.1, fun a a1 a2 => (wz_c a1).trans (h.2.1 a a1 a2), fun k k1 k2 k3 => (congrFun (wz_c hL.sm.symm) k).trans (h.2.2.1 k k1 k2 k3), ⟨(congrFun (wz_c hL.sm.symm) _).trans h.2.2.2.1.1, (congrFun (wz_c hL.sm.symm) _).trans h.2.2.2.1.2.1, (congrFun (wz_c hL.sm.symm) _).trans h.2.2.2.1.2.2⟩, fun i hi => (hn_n (Or.inr (by omega))).trans (h.2.2.2.2.1 i hi), fun i i1 i2 => (hn_n (Or.inr (by omega))).trans (h.2.2.2.2.2.1 i i1 i2), fun i hi => ⟨?_, (hn_n (Or.inr (by omega))).trans (h.2.2.2.2.2.2.1 i hi).2.1, (hn_n (Or.inr (by omega))).trans (h.2.2.2.2.2.2.1 i hi).2.2⟩, fun t w ht hw => (hn_n (Or.inr (by omega))).trans (h.2.2.2.2.2.2.2 t w ht hw)⟩
  by_cases q : i = k
  · rw [q, rv_up_s]; exact hn_s
  · rw [rv_up_n q]; exact (hn_n (Or.inr (by omega))).trans (h.2.2.2.2.2.2.1 i hi).1
theorem yq_S.pB (h : yq_S s m M0 g A B C R L O P M) (hL : yq_L G M0 s m H) (e : j = 321 + 3 * k) (hk : k < 12) : yq_S s m M0 g A (rv_up B k v) C R L O P (mj_p0 M s j v) := by
  subst e
  refine ⟨h.1, fun a a1 a2 => (wz_c a1).trans (h.2.1 a a1 a2), fun k k1 k2 k3 => (congrFun (wz_c hL.sm.symm) k).trans (h.2.2.1 k k1 k2 k3), ⟨(congrFun (wz_c hL.sm.symm) _).trans h.2.2.2.1.1, (congrFun (wz_c hL.sm.symm) _).trans h.2.2.2.1.2.1, (congrFun (wz_c hL.sm.symm) _).trans h.2.2.2.1.2.2⟩, fun i hi => (hn_n (Or.inr (by omega))).trans (h.2.2.2.2.1 i hi), fun i i1 i2 => (hn_n (Or.inr (by omega))).trans (h.2.2.2.2.2.1 i i1 i2), fun i hi => ⟨(hn_n (Or.inr (by omega))).trans (h.2.2.2.2.2.2.1 i hi).1, ?_, (hn_n (Or.inr (by omega))).trans (h.2.2.2.2.2.2.1 i hi).2.2⟩, fun t w ht hw => (hn_n (Or.inr (by omega))).trans (h.2.2.2.2.2.2.2 t w ht hw)⟩
  by_cases q : i = k
  · rw [q, rv_up_s]; exact hn_s
  · rw [rv_up_n q]; exact (hn_n (Or.inr (by omega))).trans (h.2.2.2.2.2.2.1 i hi).2.1
theorem yq_S.pC (h : yq_S s m M0 g A B C R L O P M) (hL : yq_L G M0 s m H) (e : j = 322 + 3 * k) (hk : k < 12) : yq_S s m M0 g A B (rv_up C k v) R L O P (mj_p0 M s j v) := by
  subst e
  refine ⟨h.1, fun a a1 a2 => (wz_c a1).trans (h.2.1 a a1 a2), fun k k1 k2 k3 => (congrFun (wz_c hL.sm.symm) k).trans (h.2.2.1 k k1 k2 k3), ⟨(congrFun (wz_c hL.sm.symm) _).trans h.2.2.2.1.1, (congrFun (wz_c hL.sm.symm) _).trans h.2.2.2.1.2.1, (congrFun (wz_c hL.sm.symm) _).trans h.2.2.2.1.2.2⟩, fun i hi => (hn_n (Or.inr (by omega))).trans (h.2.2.2.2.1 i hi), fun i i1 i2 => (hn_n (Or.inr (by omega))).trans (h.2.2.2.2.2.1 i i1 i2), fun i hi => ⟨(hn_n (Or.inr (by omega))).trans (h.2.2.2.2.2.2.1 i hi).1, (hn_n (Or.inr (by omega))).trans (h.2.2.2.2.2.2.1 i hi).2.1, ?_⟩, fun t w ht hw => (hn_n (Or.inr (by omega))).trans (h.2.2.2.2.2.2.2 t w ht hw)⟩
  by_cases q : i = k
  · rw [q, rv_up_s]; exact hn_s
  · rw [rv_up_n q]; exact (hn_n (Or.inr (by omega))).trans (h.2.2.2.2.2.2.1 i hi).2.2
theorem yq_S.mo (h : yq_S s m M0 g A B C R L O P M) (hL : yq_L G M0 s m H) (hk : k = 29 ∨ k = 30 ∨ k = 31) : (mj_p0 M m k v).2 = M0.2 ∧ (∀ a, a ≠ s → a ≠ m → (mj_p0 M m k v).1 a = M0.1 a) ∧ (∀ j, j ≠ 29 → j ≠ 30 → j ≠ 31 → (mj_p0 M m k v).1 m j = M0.1 m j) ∧ (mj_p0 M m k v).1 s = M.1 s := ⟨h.1, fun a a1 a2 => (wz_c a2).trans (h.2.1 a a1 a2), fun j j1 j2 j3 => (hn_n (Or.inr (by omega))).trans (h.2.2.1 j j1 j2 j3), wz_c hL.sm⟩
theorem yq_S.m29 (h : yq_S s m M0 g A B C R L O P M) (hL : yq_L G M0 s m H) : yq_S s m M0 g A B C R v O P (mj_p0 M m 29 v) := by
  obtain ⟨a1, a2, a3, a4⟩ := h.mo (k := 29) (v := v) hL (Or.inl rfl)
  obtain ⟨-, -, -, ⟨b1, b2, b3⟩, c1, c2, c3, c4⟩ := h
  exact ⟨a1, a2, a3, ⟨hn_s, (hn_n (Or.inr (by decide))).trans b2, (hn_n (Or.inr (by decide))).trans b3⟩, by rw [a4]; exact c1, by rw [a4]; exact c2, by rw [a4]; exact c3, by rw [a4]; exact c4⟩
theorem yq_S.m30 (h : yq_S s m M0 g A B C R L O P M) (hL : yq_L G M0 s m H) : yq_S s m M0 g A B C R L v P (mj_p0 M m 30 v) := by
  obtain ⟨a1, a2, a3, a4⟩ := h.mo (k := 30) (v := v) hL (Or.inr (Or.inl rfl))
  obtain ⟨-, -, -, ⟨b1, b2, b3⟩, c1, c2, c3, c4⟩ := h
  exact ⟨a1, a2, a3, ⟨(hn_n (Or.inr (by decide))).trans b1, hn_s, (hn_n (Or.inr (by decide))).trans b3⟩, by rw [a4]; exact c1, by rw [a4]; exact c2, by rw [a4]; exact c3, by rw [a4]; exact c4⟩
theorem yq_S.m31 (h : yq_S s m M0 g A B C R L O P M) (hL : yq_L G M0 s m H) : yq_S s m M0 g A B C R L O v (mj_p0 M m 31 v) := by
  obtain ⟨a1, a2, a3, a4⟩ := h.mo (k := 31) (v := v) hL (Or.inr (Or.inr rfl))
  obtain ⟨-, -, -, ⟨b1, b2, b3⟩, c1, c2, c3, c4⟩ := h
  exact ⟨a1, a2, a3, ⟨(hn_n (Or.inr (by decide))).trans b1, (hn_n (Or.inr (by decide))).trans b2, hn_s⟩, by rw [a4]; exact c1, by rw [a4]; exact c2, by rw [a4]; exact c3, by rw [a4]; exact c4⟩
end YQ
theorem r_X12_canPay {G : mj_G} {M M0 : mj_M} {s m : Nat} {H : Nat → Int} {g A B C : Nat → Int} {R : Nat → Nat → Int} {L O P : Int} {Q : mj_P} {d : Nat} (hL : yq_L G M0 s m H) {i z : Int} (hC : yq_S s m M0 g A B C R L O P M) (hi : 0 ≤ i ∧ i ≤ 7) (h1 : ye_cp R i.toNat z → Q (some (.inl 1)) G M) (h0 : ¬ ye_cp R i.toNat z → Q (some (.inl 0)) G M) : mj_R mj_tab (d + 2) 172 [.inr (.inr (some m)), .inl i, .inl z] G M Q := by
  refine ⟨Nat.le_of_ble_eq_true rfl, ?_⟩
  show wz (d + 1) mt_X12_canPay.2.2.2.2.1 _ mt_X12_canPay.2.2.2.2.1 [some (.inr (.inr (some m))), some (.inl i), some (.inl z)] [] G M _ _
  refine w_aln rfl ?_
  refine w_iln rfl ?_
  refine w_ic ?_
  refine w_cv (st := []) rfl hL.gm rfl (Nat.le_of_ble_eq_true rfl) (fun kk h => h) ⟨Nat.le_of_ble_eq_true rfl, ?_⟩
  show wz (d) mt_X12_of.2.2.2.2.1 _ mt_X12_of.2.2.2.2.1 [some (.inr (.inr (some m))), some (.inl i), some (.inl 3)] [] _ _ _ _
  refine w_aln rfl ?_
  refine w_gr hL.gm rfl (by decide) rfl (hC.vr hL.m6) ?_
  refine w_sp ?_
  refine w_bp ?_
  refine w_iln rfl ?_
  refine w_mul ⟨by show (-2147483648 : Int) ≤ 11 * i; omega, by show 11 * i < (2147483648 : Int); omega⟩ ?_
  refine w_add ⟨by show (-2147483648 : Int) ≤ 232 + (11 * i); omega, by show 232 + (11 * i) < (2147483648 : Int); omega⟩ ?_
  refine w_iln rfl ?_
  refine w_add ⟨by show (-2147483648 : Int) ≤ (232 + (11 * i)) + 3; omega, by show (232 + (11 * i)) + 3 < (2147483648 : Int); omega⟩ ?_
  refine w_iald (v := (R i.toNat 3)) hL.gs rfl (by show (0 : Int) ≤ (232 + (11 * i)) + 3; omega) (by show (232 + (11 * i)) + 3 < ((537 : Nat) : Int); omega) (hC.vR (w := 3) (by show ((232 + (11 * i)) + 3).toNat = 232 + 11 * i.toNat + 3; omega) (by show i.toNat < 8; omega) (by decide)) ?_
  refine w_iret (fun q => by cases q) ?_
  refine w_ifne (fun c1 => ?_) (fun c1 => ?_)
  · skip
    refine w_ic ?_
    exact w_iret (fun _ => Or.inl rfl) (h0 (fun q => by have q1 := q.1; have q2 := q.2; omega))
  · skip
    refine w_aln rfl ?_
    refine w_iln rfl ?_
    refine w_ic ?_
    refine w_cv (st := []) rfl hL.gm rfl (Nat.le_of_ble_eq_true rfl) (fun kk h => h) ⟨Nat.le_of_ble_eq_true rfl, ?_⟩
    show wz (d) mt_X12_of.2.2.2.2.1 _ mt_X12_of.2.2.2.2.1 [some (.inr (.inr (some m))), some (.inl i), some (.inl 1)] [] _ _ _ _
    refine w_aln rfl ?_
    refine w_gr hL.gm rfl (by decide) rfl (hC.vr hL.m6) ?_
    refine w_sp ?_
    refine w_bp ?_
    refine w_iln rfl ?_
    refine w_mul ⟨by show (-2147483648 : Int) ≤ 11 * i; omega, by show 11 * i < (2147483648 : Int); omega⟩ ?_
    refine w_add ⟨by show (-2147483648 : Int) ≤ 232 + (11 * i); omega, by show 232 + (11 * i) < (2147483648 : Int); omega⟩ ?_
    refine w_iln rfl ?_
    refine w_add ⟨by show (-2147483648 : Int) ≤ (232 + (11 * i)) + 1; omega, by show (232 + (11 * i)) + 1 < (2147483648 : Int); omega⟩ ?_
    refine w_iald (v := (R i.toNat 1)) hL.gs rfl (by show (0 : Int) ≤ (232 + (11 * i)) + 1; omega) (by show (232 + (11 * i)) + 1 < ((537 : Nat) : Int); omega) (hC.vR (w := 1) (by show ((232 + (11 * i)) + 1).toNat = 232 + 11 * i.toNat + 1; omega) (by show i.toNat < 8; omega) (by decide)) ?_
    refine w_iret (fun q => by cases q) ?_
    refine w_iln rfl ?_
    refine w_cmlt (fun c2 => ?_) (fun c2 => ?_)
    · skip
      refine w_ic ?_
      exact w_iret (fun _ => Or.inl rfl) (h0 (fun q => by have q1 := q.1; have q2 := q.2; omega))
    · skip
      refine w_ic ?_
      refine w_goto ?_
      exact w_iret (fun _ => Or.inr rfl) (h1 ⟨by omega, by omega⟩)
theorem r_X12_pays {G : mj_G} {M M0 : mj_M} {s m : Nat} {H : Nat → Int} {g A B C : Nat → Int} {R : Nat → Nat → Int} {L O P : Int} {Q : mj_P} {d : Nat} (hL : yq_L G M0 s m H) {i z : Int} (hC : yq_S s m M0 g A B C R L O P M) (hi : 0 ≤ i ∧ i ≤ 7) (hz : -1000 ≤ z ∧ z ≤ 1000) (b1 : -10000000 ≤ R i.toNat 1 ∧ R i.toNat 1 ≤ 10000000) (b5 : -10000000 ≤ R i.toNat 5 ∧ R i.toNat 5 ≤ 10000000) (h : ∀ M, yq_S s m M0 g A B C (ye_p1 R i z) L O P M → Q none G M) : mj_R mj_tab (d + 2) 223 [.inr (.inr (some m)), .inl i, .inl z] G M Q := by
  refine ⟨Nat.le_of_ble_eq_true rfl, ?_⟩
  show wz (d + 1) mt_X12_pays.2.2.2.2.1 _ mt_X12_pays.2.2.2.2.1 [some (.inr (.inr (some m))), some (.inl i), some (.inl z)] [] G M _ _
  refine w_aln rfl ?_
  refine w_iln rfl ?_
  refine w_ic ?_
  refine w_iln rfl ?_
  refine w_neg ⟨by show (-2147483648 : Int) ≤ z; omega, by show z < (2147483648 : Int); omega⟩ (by omega) ?_
  refine w_cv (st := []) rfl hL.gm rfl (Nat.le_of_ble_eq_true rfl) (fun kk h => h) ⟨Nat.le_of_ble_eq_true rfl, ?_⟩
  show wz (d) mt_X12_more.2.2.2.2.1 _ mt_X12_more.2.2.2.2.1 [some (.inr (.inr (some m))), some (.inl i), some (.inl 1), some (.inl (-z))] [] _ _ _ _
  refine w_aln rfl ?_
  refine w_gr hL.gm rfl (by decide) rfl (hC.vr hL.m6) ?_
  refine w_sp ?_
  refine w_bp ?_
  refine w_iln rfl ?_
  refine w_mul ⟨by show (-2147483648 : Int) ≤ 11 * i; omega, by show 11 * i < (2147483648 : Int); omega⟩ ?_
  refine w_add ⟨by show (-2147483648 : Int) ≤ 232 + (11 * i); omega, by show 232 + (11 * i) < (2147483648 : Int); omega⟩ ?_
  refine w_iln rfl ?_
  refine w_add ⟨by show (-2147483648 : Int) ≤ (232 + (11 * i)) + 1; omega, by show (232 + (11 * i)) + 1 < (2147483648 : Int); omega⟩ ?_
  refine w_dup2 ?_
  refine w_iald (v := (R i.toNat 1)) hL.gs rfl (by show (0 : Int) ≤ (232 + (11 * i)) + 1; omega) (by show (232 + (11 * i)) + 1 < ((537 : Nat) : Int); omega) (hC.vR (w := 1) (by show ((232 + (11 * i)) + 1).toNat = 232 + 11 * i.toNat + 1; omega) (by show i.toNat < 8; omega) (by decide)) ?_
  refine w_iln rfl ?_
  refine w_add ⟨by show (-2147483648 : Int) ≤ (R i.toNat 1) + (-z); omega, by show (R i.toNat 1) + (-z) < (2147483648 : Int); omega⟩ ?_
  refine w_iast hL.gs rfl (by decide) (by show (0 : Int) ≤ (232 + (11 * i)) + 1; omega) (by show (232 + (11 * i)) + 1 < ((537 : Nat) : Int); omega) ?_
  have hC1 := hC.op i.toNat
  have hC2 := hC1.pr (w := 1) (v := (R i.toNat 1) + (-z)) hL (by show ((232 + (11 * i)) + 1).toNat = 232 + 11 * i.toNat + 1; omega) (by show i.toNat < 8; omega) (by decide)
  refine w_ret ?_
  refine w_aln rfl ?_
  refine w_iln rfl ?_
  refine w_ic ?_
  refine w_iln rfl ?_
  refine w_cv (st := []) rfl hL.gm rfl (Nat.le_of_ble_eq_true rfl) (fun kk h => h) ⟨Nat.le_of_ble_eq_true rfl, ?_⟩
  show wz (d) mt_X12_more.2.2.2.2.1 _ mt_X12_more.2.2.2.2.1 [some (.inr (.inr (some m))), some (.inl i), some (.inl 5), some (.inl z)] [] _ _ _ _
  refine w_aln rfl ?_
  refine w_gr hL.gm rfl (by decide) rfl (hC2.vr hL.m6) ?_
  refine w_sp ?_
  refine w_bp ?_
  refine w_iln rfl ?_
  refine w_mul ⟨by show (-2147483648 : Int) ≤ 11 * i; omega, by show 11 * i < (2147483648 : Int); omega⟩ ?_
  refine w_add ⟨by show (-2147483648 : Int) ≤ 232 + (11 * i); omega, by show 232 + (11 * i) < (2147483648 : Int); omega⟩ ?_
  refine w_iln rfl ?_
  refine w_add ⟨by show (-2147483648 : Int) ≤ (232 + (11 * i)) + 5; omega, by show (232 + (11 * i)) + 5 < (2147483648 : Int); omega⟩ ?_
  refine w_dup2 ?_
  refine w_iald (v := (R i.toNat 5)) hL.gs rfl (by show (0 : Int) ≤ (232 + (11 * i)) + 5; omega) (by show (232 + (11 * i)) + 5 < ((537 : Nat) : Int); omega) ((hC2.rr (w := 5) (by show ((232 + (11 * i)) + 5).toNat = 232 + 11 * i.toNat + 5; omega) (by show i.toNat < 8; omega) (by decide)).trans ((rv_up_n (by decide)))) ?_
  refine w_iln rfl ?_
  refine w_add ⟨by show (-2147483648 : Int) ≤ (R i.toNat 5) + z; omega, by show (R i.toNat 5) + z < (2147483648 : Int); omega⟩ ?_
  refine w_iast hL.gs rfl (by decide) (by show (0 : Int) ≤ (232 + (11 * i)) + 5; omega) (by show (232 + (11 * i)) + 5 < ((537 : Nat) : Int); omega) ?_
  have hC3 := hC2.pr (w := 5) (v := (R i.toNat 5) + z) hL (by show ((232 + (11 * i)) + 5).toNat = 232 + 11 * i.toNat + 5; omega) (by show i.toNat < 8; omega) (by decide)
  refine w_ret ?_
  refine w_ret (h _ (hC3.cg (fun _ _ _ => rfl) (ye_ru_c (ye_11 rfl ?_ rfl rfl rfl rfl rfl rfl rfl rfl rfl))))
  exact ((rv_up_n (by decide)).trans (rv_up_s)).trans (Eq.trans (b := R i.toNat 1 - z) (by omega) rfl)
theorem r_bidsR {G : mj_G} {M0 : mj_M} {s m : Nat} {H : Nat → Int} {g A B C : Nat → Int} {R : Nat → Nat → Int} {O : Int} {Q : mj_P} {d : Nat} {z2 : Int} {z4 z5 : Option mj_V} (hL : yq_L G M0 s m H) {mi : Int} (hm : g 222 = mi) (m0 : 0 ≤ mi ∧ mi ≤ 11) (hH : 0 ≤ H 0 ∧ H 0 ≤ 8) (hB : ∀ t, t < 8 → 0 ≤ H (88 + 12 * t + mi.toNat) ∧ H (88 + 12 * t + mi.toNat) ≤ 999) : ∀ (n : Nat) (i L P : Int) (M : mj_M) (cb sb : Nat), i + n = H 0 → 0 ≤ i → yq_S s m M0 g A B C R L O P M → ye_bb H R mi.toNat i.toNat = (L, P) → (∀ L P M, yq_S s m M0 g A B C R L O P M → ye_bb H R mi.toNat (H 0).toNat = (L, P) → wz (d + 2) mt_X12_lets.2.2.2.2.1 Q (mt_X12_lets.2.2.2.2.1.drop 133) [some (.inr (.inr (some m))), some (.inl mi), some (.inl z2), some (.inl (H 0)), z4, z5] [] G M cb sb) → wz (d + 2) mt_X12_lets.2.2.2.2.1 Q (mt_X12_lets.2.2.2.2.1.drop 101) [some (.inr (.inr (some m))), some (.inl mi), some (.inl z2), some (.inl i), z4, z5] [] G M cb sb := by
  intro n
  induction n with
  | zero =>
    intro i L P M cb sb e i0 hC hb h
    obtain rfl : i = H 0 := by omega
    refine w_iln rfl ?_
    refine w_aln rfl ?_
    refine w_gr hL.gm rfl (by decide) rfl (hC.vr hL.m6) ?_
    refine w_ic ?_
    refine w_iald (v := (H 0)) hL.gs rfl (by show (0 : Int) ≤ 0; omega) (by show 0 < ((537 : Nat) : Int); omega) (hC.vn hL (by show (0 : Int).toNat = 0; omega) (by decide)) ?_
    refine w_cmge (fun c1 => ?_) (fun c1 => ?_)
    · skip
      exact h _ _ _ hC hb
    · exfalso; omega
  | succ n ih =>
    intro i L P M cb sb e i0 hC hb h
    have hbi := hB i.toNat (by omega)
    have et : (i + 1).toNat = i.toNat + 1 := by omega
    refine w_iln rfl ?_
    refine w_aln rfl ?_
    refine w_gr hL.gm rfl (by decide) rfl (hC.vr hL.m6) ?_
    refine w_ic ?_
    refine w_iald (v := (H 0)) hL.gs rfl (by show (0 : Int) ≤ 0; omega) (by show 0 < ((537 : Nat) : Int); omega) (hC.vn hL (by show (0 : Int).toNat = 0; omega) (by decide)) ?_
    refine w_cmge (fun c1 => ?_) (fun c1 => ?_)
    · exfalso; omega
    · skip
      refine w_aln rfl ?_
      refine w_iln rfl ?_
      refine w_iln rfl ?_
      refine w_cv (st := []) rfl hL.gm rfl (Nat.le_of_ble_eq_true rfl) (fun kk h => h) ⟨Nat.le_of_ble_eq_true rfl, ?_⟩
      show wz (d + 1) mt_X12_bidOf.2.2.2.2.1 _ mt_X12_bidOf.2.2.2.2.1 [some (.inr (.inr (some m))), some (.inl i), some (.inl mi)] [] _ _ _ _
      refine w_aln rfl ?_
      refine w_gr hL.gm rfl (by decide) rfl (hC.vr hL.m6) ?_
      refine w_bp ?_
      refine w_bp ?_
      refine w_iln rfl ?_
      refine w_mul ⟨by show (-2147483648 : Int) ≤ 12 * i; omega, by show 12 * i < (2147483648 : Int); omega⟩ ?_
      refine w_add ⟨by show (-2147483648 : Int) ≤ 88 + (12 * i); omega, by show 88 + (12 * i) < (2147483648 : Int); omega⟩ ?_
      refine w_iln rfl ?_
      refine w_add ⟨by show (-2147483648 : Int) ≤ (88 + (12 * i)) + mi; omega, by show (88 + (12 * i)) + mi < (2147483648 : Int); omega⟩ ?_
      refine w_iald (v := (H (88 + 12 * i.toNat + mi.toNat))) hL.gs rfl (by show (0 : Int) ≤ (88 + (12 * i)) + mi; omega) (by show (88 + (12 * i)) + mi < ((537 : Nat) : Int); omega) (hC.vn hL (by show ((88 + (12 * i)) + mi).toNat = 88 + 12 * i.toNat + mi.toNat; omega) (by show 88 + 12 * i.toNat + mi.toNat < 221; omega)) ?_
      refine w_iret (fun q => by cases q) ?_
      refine w_aln rfl ?_
      refine w_gi hL.gm rfl (by decide) rfl (hC.2.2.2.1.2.2) ?_
      refine w_cmle (fun c2 => ?_) (fun c2 => ?_)
      · skip
        refine w_ii rfl ⟨by show (-2147483648 : Int) ≤ i + 1; omega, by show i + 1 < (2147483648 : Int); omega⟩ ?_
        show wz _ _ _ _ [some (.inr (.inr (some m))), some (.inl mi), some (.inl z2), some (.inl (i + 1)), z4, z5] _ _ _ _ _
        refine w_goto ?_
        refine ih (i + 1) _ _ _ _ _ (by omega) (by omega) hC ?_ h
        rw [et]
        show (if (ye_bb H R mi.toNat i.toNat).2 < _ ∧ _ then _ else _) = _
        rw [hb, if_neg (fun q => by have q1 : P < _ := q.1; omega)]
      · skip
        refine w_aln rfl ?_
        refine w_iln rfl ?_
        refine w_aln rfl ?_
        refine w_iln rfl ?_
        refine w_iln rfl ?_
        refine w_cv (st := [.inl i, .inr (.inr (some m))]) rfl hL.gm rfl (Nat.le_of_ble_eq_true rfl) (fun kk h => h) ⟨Nat.le_of_ble_eq_true rfl, ?_⟩
        show wz (d + 1) mt_X12_bidOf.2.2.2.2.1 _ mt_X12_bidOf.2.2.2.2.1 [some (.inr (.inr (some m))), some (.inl i), some (.inl mi)] [] _ _ _ _
        refine w_aln rfl ?_
        refine w_gr hL.gm rfl (by decide) rfl (hC.vr hL.m6) ?_
        refine w_bp ?_
        refine w_bp ?_
        refine w_iln rfl ?_
        refine w_mul ⟨by show (-2147483648 : Int) ≤ 12 * i; omega, by show 12 * i < (2147483648 : Int); omega⟩ ?_
        refine w_add ⟨by show (-2147483648 : Int) ≤ 88 + (12 * i); omega, by show 88 + (12 * i) < (2147483648 : Int); omega⟩ ?_
        refine w_iln rfl ?_
        refine w_add ⟨by show (-2147483648 : Int) ≤ (88 + (12 * i)) + mi; omega, by show (88 + (12 * i)) + mi < (2147483648 : Int); omega⟩ ?_
        refine w_iald (v := (H (88 + 12 * i.toNat + mi.toNat))) hL.gs rfl (by show (0 : Int) ≤ (88 + (12 * i)) + mi; omega) (by show (88 + (12 * i)) + mi < ((537 : Nat) : Int); omega) (hC.vn hL (by show ((88 + (12 * i)) + mi).toNat = 88 + 12 * i.toNat + mi.toNat; omega) (by show 88 + 12 * i.toNat + mi.toNat < 221; omega)) ?_
        refine w_iret (fun q => by cases q) ?_
        refine w_cv (st := []) rfl hL.gm rfl (Nat.le_of_ble_eq_true rfl) (fun kk h => h) (r_X12_canPay (d := d) hL hC (by show 0 ≤ i ∧ i ≤ 7; omega) (fun q3 => ?_) (fun q3 => ?_))
        · skip
          refine w_ifeq (fun c4 => ?_) (fun c4 => ?_)
          · exfalso; omega
          · skip
            refine w_aln rfl ?_
            refine w_iln rfl ?_
            refine w_pi hL.gm rfl (by decide) rfl (fun q => by cases q) ?_
            have hC5 := hC.m29 (v := i) hL
            refine w_aln rfl ?_
            refine w_aln rfl ?_
            refine w_iln rfl ?_
            refine w_iln rfl ?_
            refine w_cv (st := [.inr (.inr (some m))]) rfl hL.gm rfl (Nat.le_of_ble_eq_true rfl) (fun kk h => h) ⟨Nat.le_of_ble_eq_true rfl, ?_⟩
            show wz (d + 1) mt_X12_bidOf.2.2.2.2.1 _ mt_X12_bidOf.2.2.2.2.1 [some (.inr (.inr (some m))), some (.inl i), some (.inl mi)] [] _ _ _ _
            refine w_aln rfl ?_
            refine w_gr hL.gm rfl (by decide) rfl (hC5.vr hL.m6) ?_
            refine w_bp ?_
            refine w_bp ?_
            refine w_iln rfl ?_
            refine w_mul ⟨by show (-2147483648 : Int) ≤ 12 * i; omega, by show 12 * i < (2147483648 : Int); omega⟩ ?_
            refine w_add ⟨by show (-2147483648 : Int) ≤ 88 + (12 * i); omega, by show 88 + (12 * i) < (2147483648 : Int); omega⟩ ?_
            refine w_iln rfl ?_
            refine w_add ⟨by show (-2147483648 : Int) ≤ (88 + (12 * i)) + mi; omega, by show (88 + (12 * i)) + mi < (2147483648 : Int); omega⟩ ?_
            refine w_iald (v := (H (88 + 12 * i.toNat + mi.toNat))) hL.gs rfl (by show (0 : Int) ≤ (88 + (12 * i)) + mi; omega) (by show (88 + (12 * i)) + mi < ((537 : Nat) : Int); omega) (hC5.vn hL (by show ((88 + (12 * i)) + mi).toNat = 88 + 12 * i.toNat + mi.toNat; omega) (by show 88 + 12 * i.toNat + mi.toNat < 221; omega)) ?_
            refine w_iret (fun q => by cases q) ?_
            refine w_pi hL.gm rfl (by decide) rfl (fun q => by cases q) ?_
            have hC6 := hC5.m31 (v := (H (88 + 12 * i.toNat + mi.toNat))) hL
            refine w_ii rfl ⟨by show (-2147483648 : Int) ≤ i + 1; omega, by show i + 1 < (2147483648 : Int); omega⟩ ?_
            show wz _ _ _ _ [some (.inr (.inr (some m))), some (.inl mi), some (.inl z2), some (.inl (i + 1)), z4, z5] _ _ _ _ _
            refine w_goto ?_
            refine ih (i + 1) _ _ _ _ _ (by omega) (by omega) hC6 ?_ h
            rw [et]
            show (if (ye_bb H R mi.toNat i.toNat).2 < _ ∧ _ then _ else _) = _
            rw [hb, if_pos ⟨by omega, q3⟩, Int.toNat_of_nonneg i0]
        · skip
          refine w_ifeq (fun c7 => ?_) (fun c7 => ?_)
          · skip
            refine w_ii rfl ⟨by show (-2147483648 : Int) ≤ i + 1; omega, by show i + 1 < (2147483648 : Int); omega⟩ ?_
            show wz _ _ _ _ [some (.inr (.inr (some m))), some (.inl mi), some (.inl z2), some (.inl (i + 1)), z4, z5] _ _ _ _ _
            refine w_goto ?_
            refine ih (i + 1) _ _ _ _ _ (by omega) (by omega) hC ?_ h
            rw [et]
            show (if (ye_bb H R mi.toNat i.toNat).2 < _ ∧ _ then _ else _) = _
            rw [hb, if_neg (fun q => q3 q.2)]
          · exfalso; omega
theorem r_X12_lets {G : mj_G} {M M0 : mj_M} {s m : Nat} {H : Nat → Int} {g A B C : Nat → Int} {R : Nat → Nat → Int} {L O P : Int} {Q : mj_P} {d : Nat} (hL : yq_L G M0 s m H) {mi : Int} (hC : yq_S s m M0 g A B C R L O P M) (hm : g 222 = mi) (m0 : 0 ≤ mi ∧ mi ≤ 11) (hF : 0 ≤ H (184 + 3 * mi.toNat) ∧ H (184 + 3 * mi.toNat) ≤ 9) (hS : 0 ≤ H (185 + 3 * mi.toNat) ∧ H (185 + 3 * mi.toNat) ≤ 8) (hP : 0 ≤ H (186 + 3 * mi.toNat) ∧ H (186 + 3 * mi.toNat) ≤ 999) (hU : 0 < H (185 + 3 * mi.toNat) → H (184 + 3 * mi.toNat) ≠ H (185 + 3 * mi.toNat)) (hH : 0 ≤ H 0 ∧ H 0 ≤ 8) (hB : ∀ t, t < 8 → 0 ≤ H (88 + 12 * t + mi.toNat) ∧ H (88 + 12 * t + mi.toNat) ≤ 999) (hR : ∀ t, t < 8 → (-1000000 ≤ R t 1 ∧ R t 1 ≤ 1000000) ∧ (-1000000 ≤ R t 5 ∧ R t 5 ≤ 1000000)) (h : ∀ M, yq_S s m M0 g A B C (ye_R1 R (ye_le H R mi.toNat).1 (ye_le H R mi.toNat).2.1 (ye_le H R mi.toNat).2.2) (ye_le H R mi.toNat).1 (ye_le H R mi.toNat).2.1 (ye_le H R mi.toNat).2.2 M → Q none G M) : mj_R mj_tab (d + 3) 212 [.inr (.inr (some m)), .inl mi] G M Q := by
  refine ⟨Nat.le_of_ble_eq_true rfl, ?_⟩
  show wz (d + 2) mt_X12_lets.2.2.2.2.1 _ mt_X12_lets.2.2.2.2.1 [some (.inr (.inr (some m))), some (.inl mi), none, none, none, none] [] G M _ _
  refine w_aln rfl ?_
  refine w_bp ?_
  refine w_pi hL.gm rfl (by decide) rfl (fun q => by cases q) ?_
  have hC1 := hC.m29 (v := 8) hL
  refine w_aln rfl ?_
  refine w_ic ?_
  refine w_pi hL.gm rfl (by decide) rfl (fun q => by cases q) ?_
  have hC2 := hC1.m30 (v := -1) hL
  refine w_aln rfl ?_
  refine w_ic ?_
  refine w_pi hL.gm rfl (by decide) rfl (fun q => by cases q) ?_
  have hC3 := hC2.m31 (v := 0) hL
  refine w_sp ?_
  refine w_ic ?_
  refine w_iln rfl ?_
  refine w_mul ⟨by show (-2147483648 : Int) ≤ 3 * mi; omega, by show 3 * mi < (2147483648 : Int); omega⟩ ?_
  refine w_add ⟨by show (-2147483648 : Int) ≤ 184 + (3 * mi); omega, by show 184 + (3 * mi) < (2147483648 : Int); omega⟩ ?_
  refine w_isn ?_
  show wz _ _ _ _ [some (.inr (.inr (some m))), some (.inl mi), some (.inl (184 + (3 * mi))), none, none, none] _ _ _ _ _
  refine w_aln rfl ?_
  refine w_gr hL.gm rfl (by decide) rfl (hC3.vr hL.m6) ?_
  refine w_iln rfl ?_
  refine w_iald (v := (H (184 + 3 * mi.toNat))) hL.gs rfl (by show (0 : Int) ≤ 184 + (3 * mi); omega) (by show 184 + (3 * mi) < ((537 : Nat) : Int); omega) (hC3.vn hL (by show (184 + (3 * mi)).toNat = 184 + 3 * mi.toNat; omega) (by show 184 + 3 * mi.toNat < 221; omega)) ?_
  refine w_ifle (fun c4 => ?_) (fun c4 => ?_)
  · skip
    refine w_ic ?_
    refine w_isn ?_
    show wz _ _ _ _ [some (.inr (.inr (some m))), some (.inl mi), some (.inl (184 + (3 * mi))), some (.inl 0), none, none] _ _ _ _ _
    refine r_bidsR (d := d) hL hm m0 hH hB (H 0).toNat 0 8 0 _ _ _ (by omega) (by decide) hC3 rfl (fun wh mo M5 hC5 hb => ?_)
    have bb := ye_bb_b (R := R) hB (H 0).toNat (by omega)
    rw [hb] at bb
    have b1 : (0 ≤ mo ∧ mo ≤ 999) ∧ ((wh = 8 ∧ mo = 0) ∨ (0 ≤ wh ∧ wh < ((H 0).toNat : Int))) := ⟨bb.1, bb.2.imp id (fun q => ⟨q.1, q.2.1⟩)⟩
    obtain ⟨b1, b2⟩ := b1
    refine w_aln rfl ?_
    refine w_gi hL.gm rfl (by decide) rfl (hC5.2.2.2.1.1) ?_
    refine w_bp ?_
    refine w_cmge (fun c5 => ?_) (fun c5 => ?_)
    · skip
      have el := ye_le3 (R := R) (by omega : ¬ 0 < (H (184 + 3 * mi.toNat)))
      rw [hb] at el
      rw [el] at h
      dsimp only at h
      obtain ⟨e8, e0⟩ : wh = 8 ∧ mo = 0 := by omega
      subst e8 e0
      exact w_ret (h _ (hC5.cg (fun _ _ _ => rfl) (fun t w _ _ => by show R t w = ye_R1 R 8 (-1) 0 t w; unfold ye_R1; rw [if_pos rfl])))
    · skip
      refine w_aln rfl ?_
      refine w_aln rfl ?_
      refine w_gi hL.gm rfl (by decide) rfl (hC5.2.2.2.1.1) ?_
      refine w_aln rfl ?_
      refine w_gi hL.gm rfl (by decide) rfl (hC5.2.2.2.1.2.2) ?_
      refine w_cv (st := []) rfl hL.gm rfl (Nat.le_of_ble_eq_true rfl) (fun kk h => h) (r_X12_pays (d := d) hL hC5 (by show 0 ≤ wh ∧ wh ≤ 7; omega) (by show -1000 ≤ mo ∧ mo ≤ 1000; omega) ((hR _ (by show wh.toNat < 8; omega)).1.imp (fun q => by omega) (fun q => by omega)) ((hR _ (by show wh.toNat < 8; omega)).2.imp (fun q => by omega) (fun q => by omega)) (fun M6 hC7 => ?_))
      have el := ye_le3 (R := R) (by omega : ¬ 0 < (H (184 + 3 * mi.toNat)))
      rw [hb] at el
      rw [el] at h
      dsimp only at h
      refine w_ret (h _ (hC7.cg (fun _ _ _ => rfl) (fun t w _ _ => ?_)))
      show _ = ye_R1 R wh (-1) mo t w; unfold ye_R1; rw [if_neg (by omega), if_pos (by decide)]
  · skip
    refine w_aln rfl ?_
    refine w_gr hL.gm rfl (by decide) rfl (hC3.vr hL.m6) ?_
    refine w_iln rfl ?_
    refine w_iald (v := (H (184 + 3 * mi.toNat))) hL.gs rfl (by show (0 : Int) ≤ 184 + (3 * mi); omega) (by show 184 + (3 * mi) < ((537 : Nat) : Int); omega) (hC3.vn hL (by show (184 + (3 * mi)).toNat = 184 + 3 * mi.toNat; omega) (by show 184 + 3 * mi.toNat < 221; omega)) ?_
    refine w_ic ?_
    refine w_sub ⟨by show (-2147483648 : Int) ≤ (H (184 + 3 * mi.toNat)) - 1; omega, by show (H (184 + 3 * mi.toNat)) - 1 < (2147483648 : Int); omega⟩ ?_
    refine w_isn ?_
    show wz _ _ _ _ [some (.inr (.inr (some m))), some (.inl mi), some (.inl (184 + (3 * mi))), some (.inl ((H (184 + 3 * mi.toNat)) - 1)), none, none] _ _ _ _ _
    refine w_aln rfl ?_
    refine w_gr hL.gm rfl (by decide) rfl (hC3.vr hL.m6) ?_
    refine w_iln rfl ?_
    refine w_ic ?_
    refine w_add ⟨by show (-2147483648 : Int) ≤ (184 + (3 * mi)) + 1; omega, by show (184 + (3 * mi)) + 1 < (2147483648 : Int); omega⟩ ?_
    refine w_iald (v := (H (185 + 3 * mi.toNat))) hL.gs rfl (by show (0 : Int) ≤ (184 + (3 * mi)) + 1; omega) (by show (184 + (3 * mi)) + 1 < ((537 : Nat) : Int); omega) (hC3.vn hL (by show ((184 + (3 * mi)) + 1).toNat = 185 + 3 * mi.toNat; omega) (by show 185 + 3 * mi.toNat < 221; omega)) ?_
    refine w_ic ?_
    refine w_sub ⟨by show (-2147483648 : Int) ≤ (H (185 + 3 * mi.toNat)) - 1; omega, by show (H (185 + 3 * mi.toNat)) - 1 < (2147483648 : Int); omega⟩ ?_
    refine w_is ?_
    show wz _ _ _ _ [some (.inr (.inr (some m))), some (.inl mi), some (.inl (184 + (3 * mi))), some (.inl ((H (184 + 3 * mi.toNat)) - 1)), some (.inl ((H (185 + 3 * mi.toNat)) - 1)), none] _ _ _ _ _
    refine w_aln rfl ?_
    refine w_gr hL.gm rfl (by decide) rfl (hC3.vr hL.m6) ?_
    refine w_iln rfl ?_
    refine w_ic ?_
    refine w_add ⟨by show (-2147483648 : Int) ≤ (184 + (3 * mi)) + 2; omega, by show (184 + (3 * mi)) + 2 < (2147483648 : Int); omega⟩ ?_
    refine w_iald (v := (H (186 + 3 * mi.toNat))) hL.gs rfl (by show (0 : Int) ≤ (184 + (3 * mi)) + 2; omega) (by show (184 + (3 * mi)) + 2 < ((537 : Nat) : Int); omega) (hC3.vn hL (by show ((184 + (3 * mi)) + 2).toNat = 186 + 3 * mi.toNat; omega) (by show 186 + 3 * mi.toNat < 221; omega)) ?_
    refine w_is ?_
    show wz _ _ _ _ [some (.inr (.inr (some m))), some (.inl mi), some (.inl (184 + (3 * mi))), some (.inl ((H (184 + 3 * mi.toNat)) - 1)), some (.inl ((H (185 + 3 * mi.toNat)) - 1)), some (.inl (H (186 + 3 * mi.toNat)))] _ _ _ _ _
    refine w_iln rfl ?_
    refine w_bp ?_
    refine w_cmeq (fun c8 => ?_) (fun c8 => ?_)
    · skip
      have el := ye_le1 (R := R) (by omega : 0 < (H (184 + 3 * mi.toNat))) (Or.inl (by omega))
      rw [el] at h
      dsimp only at h
      exact w_ret (h _ (hC3.cg (fun _ _ _ => rfl) (fun t w _ _ => by show R t w = ye_R1 R 8 (-1) 0 t w; unfold ye_R1; rw [if_pos rfl])))
    · skip
      refine w_aln rfl ?_
      refine w_iln rfl ?_
      refine w_il rfl ?_
      refine w_ifge (fun c9 => ?_) (fun c9 => ?_)
      · skip
        refine w_il rfl ?_
        refine w_ic ?_
        refine w_add ⟨by show (-2147483648 : Int) ≤ (H (186 + 3 * mi.toNat)) + 1; omega, by show (H (186 + 3 * mi.toNat)) + 1 < (2147483648 : Int); omega⟩ ?_
        refine w_ic ?_
        refine w_div (by decide) ?_
        intro z10 hz10 ez10
        obtain rfl : z10 = (((H (186 + 3 * mi.toNat)) + 1) / 2) := ye_half (by omega) (by omega) ez10
        refine w_cv (st := []) rfl hL.gm rfl (Nat.le_of_ble_eq_true rfl) (fun kk h => h) (r_X12_canPay (d := d) hL hC3 (by show 0 ≤ (H (184 + 3 * mi.toNat)) - 1 ∧ (H (184 + 3 * mi.toNat)) - 1 ≤ 7; omega) (fun q11 => ?_) (fun q11 => ?_))
        · skip
          refine w_ifeq (fun c12 => ?_) (fun c12 => ?_)
          · exfalso; omega
          · skip
            refine w_il rfl ?_
            refine w_iflt (fun c13 => ?_) (fun c13 => ?_)
            · exfalso; omega
            · skip
              refine w_aln rfl ?_
              refine w_il rfl ?_
              refine w_il rfl ?_
              refine w_ic ?_
              refine w_div (by decide) ?_
              intro z14 hz14 ez14
              obtain rfl : z14 = ((H (186 + 3 * mi.toNat)) / 2) := ye_half (by omega) (by omega) ez14
              refine w_cv (st := []) rfl hL.gm rfl (Nat.le_of_ble_eq_true rfl) (fun kk h => h) (r_X12_canPay (d := d) hL hC3 (by show 0 ≤ (H (185 + 3 * mi.toNat)) - 1 ∧ (H (185 + 3 * mi.toNat)) - 1 ≤ 7; omega) (fun q15 => ?_) (fun q15 => ?_))
              · skip
                refine w_ifne (fun c16 => ?_) (fun c16 => ?_)
                · skip
                  refine w_aln rfl ?_
                  refine w_iln rfl ?_
                  refine w_pi hL.gm rfl (by decide) rfl (fun q => by cases q) ?_
                  have hC17 := hC3.m29 (v := (H (184 + 3 * mi.toNat)) - 1) hL
                  refine w_aln rfl ?_
                  refine w_il rfl ?_
                  refine w_pi hL.gm rfl (by decide) rfl (fun q => by cases q) ?_
                  have hC18 := hC17.m30 (v := (H (185 + 3 * mi.toNat)) - 1) hL
                  refine w_aln rfl ?_
                  refine w_il rfl ?_
                  refine w_pi hL.gm rfl (by decide) rfl (fun q => by cases q) ?_
                  have hC19 := hC18.m31 (v := (H (186 + 3 * mi.toNat))) hL
                  refine w_aln rfl ?_
                  refine w_iln rfl ?_
                  refine w_il rfl ?_
                  refine w_ifge (fun c20 => ?_) (fun c20 => ?_)
                  · skip
                    refine w_il rfl ?_
                    refine w_ic ?_
                    refine w_add ⟨by show (-2147483648 : Int) ≤ (H (186 + 3 * mi.toNat)) + 1; omega, by show (H (186 + 3 * mi.toNat)) + 1 < (2147483648 : Int); omega⟩ ?_
                    refine w_ic ?_
                    refine w_div (by decide) ?_
                    intro z21 hz21 ez21
                    obtain rfl : z21 = (((H (186 + 3 * mi.toNat)) + 1) / 2) := ye_half (by omega) (by omega) ez21
                    refine w_cv (st := []) rfl hL.gm rfl (Nat.le_of_ble_eq_true rfl) (fun kk h => h) (r_X12_pays (d := d) hL hC19 (by show 0 ≤ (H (184 + 3 * mi.toNat)) - 1 ∧ (H (184 + 3 * mi.toNat)) - 1 ≤ 7; omega) (by show -1000 ≤ (((H (186 + 3 * mi.toNat)) + 1) / 2) ∧ (((H (186 + 3 * mi.toNat)) + 1) / 2) ≤ 1000; omega) ((hR _ (by show ((H (184 + 3 * mi.toNat)) - 1).toNat < 8; omega)).1.imp (fun q => by omega) (fun q => by omega)) ((hR _ (by show ((H (184 + 3 * mi.toNat)) - 1).toNat < 8; omega)).2.imp (fun q => by omega) (fun q => by omega)) (fun M22 hC23 => ?_))
                    refine w_il rfl ?_
                    refine w_iflt (fun c24 => ?_) (fun c24 => ?_)
                    · exfalso; omega
                    · skip
                      refine w_aln rfl ?_
                      refine w_il rfl ?_
                      refine w_il rfl ?_
                      refine w_ic ?_
                      refine w_div (by decide) ?_
                      intro z25 hz25 ez25
                      obtain rfl : z25 = ((H (186 + 3 * mi.toNat)) / 2) := ye_half (by omega) (by omega) ez25
                      refine w_cv (st := []) rfl hL.gm rfl (Nat.le_of_ble_eq_true rfl) (fun kk h => h) (r_X12_pays (d := d) hL hC23 (by show 0 ≤ (H (185 + 3 * mi.toNat)) - 1 ∧ (H (185 + 3 * mi.toNat)) - 1 ≤ 7; omega) (by show -1000 ≤ ((H (186 + 3 * mi.toNat)) / 2) ∧ ((H (186 + 3 * mi.toNat)) / 2) ≤ 1000; omega) (by rw [show (ye_p1 R ((H (184 + 3 * mi.toNat)) - 1) (((H (186 + 3 * mi.toNat)) + 1) / 2)) ((H (185 + 3 * mi.toNat)) - 1).toNat = R ((H (185 + 3 * mi.toNat)) - 1).toNat from ye_ru_n (by show ((H (185 + 3 * mi.toNat)) - 1).toNat ≠ ((H (184 + 3 * mi.toNat)) - 1).toNat; omega)]; have q := (hR ((H (185 + 3 * mi.toNat)) - 1).toNat (by omega)).1; omega) (by rw [show (ye_p1 R ((H (184 + 3 * mi.toNat)) - 1) (((H (186 + 3 * mi.toNat)) + 1) / 2)) ((H (185 + 3 * mi.toNat)) - 1).toNat = R ((H (185 + 3 * mi.toNat)) - 1).toNat from ye_ru_n (by show ((H (185 + 3 * mi.toNat)) - 1).toNat ≠ ((H (184 + 3 * mi.toNat)) - 1).toNat; omega)]; have q := (hR ((H (185 + 3 * mi.toNat)) - 1).toNat (by omega)).2; omega) (fun M26 hC27 => ?_))
                      have ea : ye_a (H (186 + 3 * mi.toNat)) ((H (185 + 3 * mi.toNat)) - 1) = (((H (186 + 3 * mi.toNat)) + 1) / 2) := by unfold ye_a; split <;> omega
                      have el := ye_le2 (R := R) (by omega : 0 < (H (184 + 3 * mi.toNat))) (fun q => by
                        rcases q with q | q | q
                        · omega
                        · exact q (by rw [ea]; exact q11)
                        · exact q.2 q15)
                      rw [el] at h
                      dsimp only at h
                      refine w_ret (h _ (hC27.cg (fun _ _ _ => rfl) (fun t w _ _ => ?_)))
                      show _ = ye_R1 R ((H (184 + 3 * mi.toNat)) - 1) ((H (185 + 3 * mi.toNat)) - 1) (H (186 + 3 * mi.toNat)) t w
                      unfold ye_R1; rw [if_neg (by omega), if_neg (by omega), show (H (186 + 3 * mi.toNat)) - (H (186 + 3 * mi.toNat)) / 2 = (((H (186 + 3 * mi.toNat)) + 1) / 2) by omega]
                  · exfalso; omega
                · exfalso; omega
              · skip
                refine w_ifne (fun c28 => ?_) (fun c28 => ?_)
                · exfalso; omega
                · skip
                  have el := ye_le1 (R := R) (by omega : 0 < (H (184 + 3 * mi.toNat))) (Or.inr (Or.inr ⟨by omega, q15⟩))
                  rw [el] at h
                  dsimp only at h
                  exact w_ret (h _ (hC3.cg (fun _ _ _ => rfl) (fun t w _ _ => by show R t w = ye_R1 R 8 (-1) 0 t w; unfold ye_R1; rw [if_pos rfl])))
        · skip
          refine w_ifeq (fun c29 => ?_) (fun c29 => ?_)
          · skip
            have el := ye_le1 (R := R) (by omega : 0 < (H (184 + 3 * mi.toNat))) (Or.inr (Or.inl (fun q => q11 ⟨q.1, by have q2 := q.2; have ea : ye_a (H (186 + 3 * mi.toNat)) ((H (185 + 3 * mi.toNat)) - 1) = (((H (186 + 3 * mi.toNat)) + 1) / 2) := (by unfold ye_a; split <;> omega); rw [ea] at q2; exact q2⟩)))
            rw [el] at h
            dsimp only at h
            exact w_ret (h _ (hC3.cg (fun _ _ _ => rfl) (fun t w _ _ => by show R t w = ye_R1 R 8 (-1) 0 t w; unfold ye_R1; rw [if_pos rfl])))
          · exfalso; omega
      · skip
        refine w_il rfl ?_
        refine w_goto ?_
        refine w_cv (st := []) rfl hL.gm rfl (Nat.le_of_ble_eq_true rfl) (fun kk h => h) (r_X12_canPay (d := d) hL hC3 (by show 0 ≤ (H (184 + 3 * mi.toNat)) - 1 ∧ (H (184 + 3 * mi.toNat)) - 1 ≤ 7; omega) (fun q30 => ?_) (fun q30 => ?_))
        · skip
          refine w_ifeq (fun c31 => ?_) (fun c31 => ?_)
          · exfalso; omega
          · skip
            refine w_il rfl ?_
            refine w_iflt (fun c32 => ?_) (fun c32 => ?_)
            · skip
              refine w_aln rfl ?_
              refine w_iln rfl ?_
              refine w_pi hL.gm rfl (by decide) rfl (fun q => by cases q) ?_
              have hC33 := hC3.m29 (v := (H (184 + 3 * mi.toNat)) - 1) hL
              refine w_aln rfl ?_
              refine w_il rfl ?_
              refine w_pi hL.gm rfl (by decide) rfl (fun q => by cases q) ?_
              have hC34 := hC33.m30 (v := (H (185 + 3 * mi.toNat)) - 1) hL
              refine w_aln rfl ?_
              refine w_il rfl ?_
              refine w_pi hL.gm rfl (by decide) rfl (fun q => by cases q) ?_
              have hC35 := hC34.m31 (v := (H (186 + 3 * mi.toNat))) hL
              refine w_aln rfl ?_
              refine w_iln rfl ?_
              refine w_il rfl ?_
              refine w_ifge (fun c36 => ?_) (fun c36 => ?_)
              · exfalso; omega
              · skip
                refine w_il rfl ?_
                refine w_goto ?_
                refine w_cv (st := []) rfl hL.gm rfl (Nat.le_of_ble_eq_true rfl) (fun kk h => h) (r_X12_pays (d := d) hL hC35 (by show 0 ≤ (H (184 + 3 * mi.toNat)) - 1 ∧ (H (184 + 3 * mi.toNat)) - 1 ≤ 7; omega) (by show -1000 ≤ (H (186 + 3 * mi.toNat)) ∧ (H (186 + 3 * mi.toNat)) ≤ 1000; omega) ((hR _ (by show ((H (184 + 3 * mi.toNat)) - 1).toNat < 8; omega)).1.imp (fun q => by omega) (fun q => by omega)) ((hR _ (by show ((H (184 + 3 * mi.toNat)) - 1).toNat < 8; omega)).2.imp (fun q => by omega) (fun q => by omega)) (fun M37 hC38 => ?_))
                refine w_il rfl ?_
                refine w_iflt (fun c39 => ?_) (fun c39 => ?_)
                · skip
                  have ea : ye_a (H (186 + 3 * mi.toNat)) ((H (185 + 3 * mi.toNat)) - 1) = (H (186 + 3 * mi.toNat)) := by unfold ye_a; split <;> omega
                  have el := ye_le2 (R := R) (by omega : 0 < (H (184 + 3 * mi.toNat))) (fun q => by
                    rcases q with q | q | q
                    · omega
                    · exact q (by rw [ea]; exact q30)
                    · omega)
                  rw [el] at h
                  dsimp only at h
                  refine w_ret (h _ (hC38.cg (fun _ _ _ => rfl) (fun t w _ _ => ?_)))
                  show _ = ye_R1 R ((H (184 + 3 * mi.toNat)) - 1) ((H (185 + 3 * mi.toNat)) - 1) (H (186 + 3 * mi.toNat)) t w
                  unfold ye_R1; rw [if_neg (by omega), if_pos (by omega)]
                · exfalso; omega
            · exfalso; omega
        · skip
          refine w_ifeq (fun c40 => ?_) (fun c40 => ?_)
          · skip
            have el := ye_le1 (R := R) (by omega : 0 < (H (184 + 3 * mi.toNat))) (Or.inr (Or.inl (fun q => q30 ⟨q.1, by have q2 := q.2; have ea : ye_a (H (186 + 3 * mi.toNat)) ((H (185 + 3 * mi.toNat)) - 1) = (H (186 + 3 * mi.toNat)) := (by unfold ye_a; split <;> omega); rw [ea] at q2; exact q2⟩)))
            rw [el] at h
            dsimp only at h
            exact w_ret (h _ (hC3.cg (fun _ _ _ => rfl) (fun t w _ _ => by show R t w = ye_R1 R 8 (-1) 0 t w; unfold ye_R1; rw [if_pos rfl])))
          · exfalso; omega
theorem r_X12_comes {G : mj_G} {M M0 : mj_M} {s m : Nat} {H : Nat → Int} {g A B C : Nat → Int} {R : Nat → Nat → Int} {L O P : Int} {Q : mj_P} {d : Nat} (hL : yq_L G M0 s m H) {i z : Int} (hC : yq_S s m M0 g A B C R L O P M) (hi : 0 ≤ i ∧ i ≤ 7) (hz : 0 ≤ z ∧ z ≤ 2000) (hT : ∀ j, 4 ≤ j → j < 76 → 0 ≤ H j ∧ H j ≤ 999) (r0 : -1000000 ≤ R i.toNat 0 ∧ R i.toNat 0 ≤ 1000000) (r6 : -1000000 ≤ R i.toNat 6 ∧ R i.toNat 6 ≤ 1000000) (q228 : -10000000 ≤ g 228 ∧ g 228 ≤ 10000000) (q229 : -10000000 ≤ g 229 ∧ g 229 ≤ 10000000) (h : ∀ M, yq_S s m M0 (ye_c1 H R g i z) A B C (ye_cR H R i z) L O P M → Q none G M) : mj_R mj_tab (d + 2) 175 [.inr (.inr (some m)), .inl i, .inl z] G M Q := by
  have t0 := hT (4 + 9 * i.toNat) (by omega) (by omega)
  have t1 := hT (5 + 9 * i.toNat) (by omega) (by omega)
  refine ⟨Nat.le_of_ble_eq_true rfl, ?_⟩
  show wz (d + 1) mt_X12_comes.2.2.2.2.1 _ mt_X12_comes.2.2.2.2.1 [some (.inr (.inr (some m))), some (.inl i), some (.inl z), none, none, none] [] G M _ _
  refine w_iln rfl ?_
  refine w_aln rfl ?_
  refine w_iln rfl ?_
  refine w_ic ?_
  refine w_cv (st := [.inl z]) rfl hL.gm rfl (Nat.le_of_ble_eq_true rfl) (fun kk h => h) ⟨Nat.le_of_ble_eq_true rfl, ?_⟩
  show wz (d) mt_X12_toldOf.2.2.2.2.1 _ mt_X12_toldOf.2.2.2.2.1 [some (.inr (.inr (some m))), some (.inl i), some (.inl 0)] [] _ _ _ _
  refine w_aln rfl ?_
  refine w_gr hL.gm rfl (by decide) rfl (hC.vr hL.m6) ?_
  refine w_ic ?_
  refine w_bp ?_
  refine w_iln rfl ?_
  refine w_mul ⟨by show (-2147483648 : Int) ≤ 9 * i; omega, by show 9 * i < (2147483648 : Int); omega⟩ ?_
  refine w_add ⟨by show (-2147483648 : Int) ≤ 4 + (9 * i); omega, by show 4 + (9 * i) < (2147483648 : Int); omega⟩ ?_
  refine w_iln rfl ?_
  refine w_add ⟨by show (-2147483648 : Int) ≤ (4 + (9 * i)) + 0; omega, by show (4 + (9 * i)) + 0 < (2147483648 : Int); omega⟩ ?_
  refine w_iald (v := (H (4 + 9 * i.toNat))) hL.gs rfl (by show (0 : Int) ≤ (4 + (9 * i)) + 0; omega) (by show (4 + (9 * i)) + 0 < ((537 : Nat) : Int); omega) (hC.vn hL (by show ((4 + (9 * i)) + 0).toNat = 4 + 9 * i.toNat; omega) (by show 4 + 9 * i.toNat < 221; omega)) ?_
  refine w_iret (fun q => by cases q) ?_
  refine w_cmge (fun c1 => ?_) (fun c1 => ?_)
  · skip
    refine w_aln rfl ?_
    refine w_iln rfl ?_
    refine w_ic ?_
    refine w_cv (st := []) rfl hL.gm rfl (Nat.le_of_ble_eq_true rfl) (fun kk h => h) ⟨Nat.le_of_ble_eq_true rfl, ?_⟩
    show wz (d) mt_X12_toldOf.2.2.2.2.1 _ mt_X12_toldOf.2.2.2.2.1 [some (.inr (.inr (some m))), some (.inl i), some (.inl 0)] [] _ _ _ _
    refine w_aln rfl ?_
    refine w_gr hL.gm rfl (by decide) rfl (hC.vr hL.m6) ?_
    refine w_ic ?_
    refine w_bp ?_
    refine w_iln rfl ?_
    refine w_mul ⟨by show (-2147483648 : Int) ≤ 9 * i; omega, by show 9 * i < (2147483648 : Int); omega⟩ ?_
    refine w_add ⟨by show (-2147483648 : Int) ≤ 4 + (9 * i); omega, by show 4 + (9 * i) < (2147483648 : Int); omega⟩ ?_
    refine w_iln rfl ?_
    refine w_add ⟨by show (-2147483648 : Int) ≤ (4 + (9 * i)) + 0; omega, by show (4 + (9 * i)) + 0 < (2147483648 : Int); omega⟩ ?_
    refine w_iald (v := (H (4 + 9 * i.toNat))) hL.gs rfl (by show (0 : Int) ≤ (4 + (9 * i)) + 0; omega) (by show (4 + (9 * i)) + 0 < ((537 : Nat) : Int); omega) (hC.vn hL (by show ((4 + (9 * i)) + 0).toNat = 4 + 9 * i.toNat; omega) (by show 4 + 9 * i.toNat < 221; omega)) ?_
    refine w_iret (fun q => by cases q) ?_
    refine w_isn ?_
    show wz _ _ _ _ [some (.inr (.inr (some m))), some (.inl i), some (.inl z), some (.inl (H (4 + 9 * i.toNat))), none, none] _ _ _ _ _
    refine w_aln rfl ?_
    refine w_iln rfl ?_
    refine w_ic ?_
    refine w_cv (st := []) rfl hL.gm rfl (Nat.le_of_ble_eq_true rfl) (fun kk h => h) ⟨Nat.le_of_ble_eq_true rfl, ?_⟩
    show wz (d) mt_X12_toldOf.2.2.2.2.1 _ mt_X12_toldOf.2.2.2.2.1 [some (.inr (.inr (some m))), some (.inl i), some (.inl 1)] [] _ _ _ _
    refine w_aln rfl ?_
    refine w_gr hL.gm rfl (by decide) rfl (hC.vr hL.m6) ?_
    refine w_ic ?_
    refine w_bp ?_
    refine w_iln rfl ?_
    refine w_mul ⟨by show (-2147483648 : Int) ≤ 9 * i; omega, by show 9 * i < (2147483648 : Int); omega⟩ ?_
    refine w_add ⟨by show (-2147483648 : Int) ≤ 4 + (9 * i); omega, by show 4 + (9 * i) < (2147483648 : Int); omega⟩ ?_
    refine w_iln rfl ?_
    refine w_add ⟨by show (-2147483648 : Int) ≤ (4 + (9 * i)) + 1; omega, by show (4 + (9 * i)) + 1 < (2147483648 : Int); omega⟩ ?_
    refine w_iald (v := (H (5 + 9 * i.toNat))) hL.gs rfl (by show (0 : Int) ≤ (4 + (9 * i)) + 1; omega) (by show (4 + (9 * i)) + 1 < ((537 : Nat) : Int); omega) (hC.vn hL (by show ((4 + (9 * i)) + 1).toNat = 5 + 9 * i.toNat; omega) (by show 5 + 9 * i.toNat < 221; omega)) ?_
    refine w_iret (fun q => by cases q) ?_
    refine w_aln rfl ?_
    refine w_iln rfl ?_
    refine w_ic ?_
    refine w_cv (st := [.inl (H (5 + 9 * i.toNat))]) rfl hL.gm rfl (Nat.le_of_ble_eq_true rfl) (fun kk h => h) ⟨Nat.le_of_ble_eq_true rfl, ?_⟩
    show wz (d) mt_X12_of.2.2.2.2.1 _ mt_X12_of.2.2.2.2.1 [some (.inr (.inr (some m))), some (.inl i), some (.inl 0)] [] _ _ _ _
    refine w_aln rfl ?_
    refine w_gr hL.gm rfl (by decide) rfl (hC.vr hL.m6) ?_
    refine w_sp ?_
    refine w_bp ?_
    refine w_iln rfl ?_
    refine w_mul ⟨by show (-2147483648 : Int) ≤ 11 * i; omega, by show 11 * i < (2147483648 : Int); omega⟩ ?_
    refine w_add ⟨by show (-2147483648 : Int) ≤ 232 + (11 * i); omega, by show 232 + (11 * i) < (2147483648 : Int); omega⟩ ?_
    refine w_iln rfl ?_
    refine w_add ⟨by show (-2147483648 : Int) ≤ (232 + (11 * i)) + 0; omega, by show (232 + (11 * i)) + 0 < (2147483648 : Int); omega⟩ ?_
    refine w_iald (v := (R i.toNat 0)) hL.gs rfl (by show (0 : Int) ≤ (232 + (11 * i)) + 0; omega) (by show (232 + (11 * i)) + 0 < ((537 : Nat) : Int); omega) (hC.vR (w := 0) (by show ((232 + (11 * i)) + 0).toNat = 232 + 11 * i.toNat + 0; omega) (by show i.toNat < 8; omega) (by decide)) ?_
    refine w_iret (fun q => by cases q) ?_
    refine w_sub ⟨by show (-2147483648 : Int) ≤ (H (5 + 9 * i.toNat)) - (R i.toNat 0); omega, by show (H (5 + 9 * i.toNat)) - (R i.toNat 0) < (2147483648 : Int); omega⟩ ?_
    refine w_is ?_
    show wz _ _ _ _ [some (.inr (.inr (some m))), some (.inl i), some (.inl z), some (.inl (H (4 + 9 * i.toNat))), some (.inl ((H (5 + 9 * i.toNat)) - (R i.toNat 0))), none] _ _ _ _ _
    refine w_iln rfl ?_
    refine w_iln rfl ?_
    refine w_sub ⟨by show (-2147483648 : Int) ≤ z - (H (4 + 9 * i.toNat)); omega, by show z - (H (4 + 9 * i.toNat)) < (2147483648 : Int); omega⟩ ?_
    refine w_il rfl ?_
    refine w_cmge (fun c2 => ?_) (fun c2 => ?_)
    · skip
      refine w_il rfl ?_
      refine w_is ?_
      show wz _ _ _ _ [some (.inr (.inr (some m))), some (.inl i), some (.inl z), some (.inl (H (4 + 9 * i.toNat))), some (.inl ((H (5 + 9 * i.toNat)) - (R i.toNat 0))), some (.inl ((H (5 + 9 * i.toNat)) - (R i.toNat 0)))] _ _ _ _ _
      refine w_aln rfl ?_
      refine w_gr hL.gm rfl (by decide) rfl (hC.vr hL.m6) ?_
      refine w_sp ?_
      refine w_dup2 ?_
      refine w_iald (v := (g 228)) hL.gs rfl (by show (0 : Int) ≤ 228; omega) (by show 228 < ((537 : Nat) : Int); omega) (hC.vg (k := 228) (by decide) (by decide)) ?_
      refine w_iln rfl ?_
      refine w_add ⟨by show (-2147483648 : Int) ≤ (g 228) + (H (4 + 9 * i.toNat)); omega, by show (g 228) + (H (4 + 9 * i.toNat)) < (2147483648 : Int); omega⟩ ?_
      refine w_iast hL.gs rfl (by decide) (by show (0 : Int) ≤ 228; omega) (by show 228 < ((537 : Nat) : Int); omega) ?_
      have hC3 := hC.pg (k := 228) (v := (g 228) + (H (4 + 9 * i.toNat))) hL (by decide) (by decide) (by show (228 : Int).toNat = 228; omega)
      refine w_aln rfl ?_
      refine w_gr hL.gm rfl (by decide) rfl (hC3.vr hL.m6) ?_
      refine w_sp ?_
      refine w_dup2 ?_
      refine w_iald (v := (g 229)) hL.gs rfl (by show (0 : Int) ≤ 229; omega) (by show 229 < ((537 : Nat) : Int); omega) ((hC3.vg (k := 229) (by decide) (by decide)).trans ((rv_up_n (by decide)))) ?_
      refine w_iln rfl ?_
      refine w_iln rfl ?_
      refine w_sub ⟨by show (-2147483648 : Int) ≤ z - (H (4 + 9 * i.toNat)); omega, by show z - (H (4 + 9 * i.toNat)) < (2147483648 : Int); omega⟩ ?_
      refine w_il rfl ?_
      refine w_sub ⟨by show (-2147483648 : Int) ≤ (z - (H (4 + 9 * i.toNat))) - ((H (5 + 9 * i.toNat)) - (R i.toNat 0)); omega, by show (z - (H (4 + 9 * i.toNat))) - ((H (5 + 9 * i.toNat)) - (R i.toNat 0)) < (2147483648 : Int); omega⟩ ?_
      refine w_add ⟨by show (-2147483648 : Int) ≤ (g 229) + ((z - (H (4 + 9 * i.toNat))) - ((H (5 + 9 * i.toNat)) - (R i.toNat 0))); omega, by show (g 229) + ((z - (H (4 + 9 * i.toNat))) - ((H (5 + 9 * i.toNat)) - (R i.toNat 0))) < (2147483648 : Int); omega⟩ ?_
      refine w_iast hL.gs rfl (by decide) (by show (0 : Int) ≤ 229; omega) (by show 229 < ((537 : Nat) : Int); omega) ?_
      have hC4 := hC3.pg (k := 229) (v := (g 229) + ((z - (H (4 + 9 * i.toNat))) - ((H (5 + 9 * i.toNat)) - (R i.toNat 0)))) hL (by decide) (by decide) (by show (229 : Int).toNat = 229; omega)
      refine w_aln rfl ?_
      refine w_iln rfl ?_
      refine w_ic ?_
      refine w_il rfl ?_
      refine w_cv (st := []) rfl hL.gm rfl (Nat.le_of_ble_eq_true rfl) (fun kk h => h) ⟨Nat.le_of_ble_eq_true rfl, ?_⟩
      show wz (d) mt_X12_more.2.2.2.2.1 _ mt_X12_more.2.2.2.2.1 [some (.inr (.inr (some m))), some (.inl i), some (.inl 0), some (.inl ((H (5 + 9 * i.toNat)) - (R i.toNat 0)))] [] _ _ _ _
      refine w_aln rfl ?_
      refine w_gr hL.gm rfl (by decide) rfl (hC4.vr hL.m6) ?_
      refine w_sp ?_
      refine w_bp ?_
      refine w_iln rfl ?_
      refine w_mul ⟨by show (-2147483648 : Int) ≤ 11 * i; omega, by show 11 * i < (2147483648 : Int); omega⟩ ?_
      refine w_add ⟨by show (-2147483648 : Int) ≤ 232 + (11 * i); omega, by show 232 + (11 * i) < (2147483648 : Int); omega⟩ ?_
      refine w_iln rfl ?_
      refine w_add ⟨by show (-2147483648 : Int) ≤ (232 + (11 * i)) + 0; omega, by show (232 + (11 * i)) + 0 < (2147483648 : Int); omega⟩ ?_
      refine w_dup2 ?_
      refine w_iald (v := (R i.toNat 0)) hL.gs rfl (by show (0 : Int) ≤ (232 + (11 * i)) + 0; omega) (by show (232 + (11 * i)) + 0 < ((537 : Nat) : Int); omega) (hC4.vR (w := 0) (by show ((232 + (11 * i)) + 0).toNat = 232 + 11 * i.toNat + 0; omega) (by show i.toNat < 8; omega) (by decide)) ?_
      refine w_iln rfl ?_
      refine w_add ⟨by show (-2147483648 : Int) ≤ (R i.toNat 0) + ((H (5 + 9 * i.toNat)) - (R i.toNat 0)); omega, by show (R i.toNat 0) + ((H (5 + 9 * i.toNat)) - (R i.toNat 0)) < (2147483648 : Int); omega⟩ ?_
      refine w_iast hL.gs rfl (by decide) (by show (0 : Int) ≤ (232 + (11 * i)) + 0; omega) (by show (232 + (11 * i)) + 0 < ((537 : Nat) : Int); omega) ?_
      have hC5 := hC4.op i.toNat
      have hC6 := hC5.pr (w := 0) (v := (R i.toNat 0) + ((H (5 + 9 * i.toNat)) - (R i.toNat 0))) hL (by show ((232 + (11 * i)) + 0).toNat = 232 + 11 * i.toNat + 0; omega) (by show i.toNat < 8; omega) (by decide)
      refine w_ret ?_
      refine w_aln rfl ?_
      refine w_iln rfl ?_
      refine w_bp ?_
      refine w_il rfl ?_
      refine w_cv (st := []) rfl hL.gm rfl (Nat.le_of_ble_eq_true rfl) (fun kk h => h) ⟨Nat.le_of_ble_eq_true rfl, ?_⟩
      show wz (d) mt_X12_more.2.2.2.2.1 _ mt_X12_more.2.2.2.2.1 [some (.inr (.inr (some m))), some (.inl i), some (.inl 6), some (.inl ((H (5 + 9 * i.toNat)) - (R i.toNat 0)))] [] _ _ _ _
      refine w_aln rfl ?_
      refine w_gr hL.gm rfl (by decide) rfl (hC6.vr hL.m6) ?_
      refine w_sp ?_
      refine w_bp ?_
      refine w_iln rfl ?_
      refine w_mul ⟨by show (-2147483648 : Int) ≤ 11 * i; omega, by show 11 * i < (2147483648 : Int); omega⟩ ?_
      refine w_add ⟨by show (-2147483648 : Int) ≤ 232 + (11 * i); omega, by show 232 + (11 * i) < (2147483648 : Int); omega⟩ ?_
      refine w_iln rfl ?_
      refine w_add ⟨by show (-2147483648 : Int) ≤ (232 + (11 * i)) + 6; omega, by show (232 + (11 * i)) + 6 < (2147483648 : Int); omega⟩ ?_
      refine w_dup2 ?_
      refine w_iald (v := (R i.toNat 6)) hL.gs rfl (by show (0 : Int) ≤ (232 + (11 * i)) + 6; omega) (by show (232 + (11 * i)) + 6 < ((537 : Nat) : Int); omega) ((hC6.rr (w := 6) (by show ((232 + (11 * i)) + 6).toNat = 232 + 11 * i.toNat + 6; omega) (by show i.toNat < 8; omega) (by decide)).trans ((rv_up_n (by decide)))) ?_
      refine w_iln rfl ?_
      refine w_add ⟨by show (-2147483648 : Int) ≤ (R i.toNat 6) + ((H (5 + 9 * i.toNat)) - (R i.toNat 0)); omega, by show (R i.toNat 6) + ((H (5 + 9 * i.toNat)) - (R i.toNat 0)) < (2147483648 : Int); omega⟩ ?_
      refine w_iast hL.gs rfl (by decide) (by show (0 : Int) ≤ (232 + (11 * i)) + 6; omega) (by show (232 + (11 * i)) + 6 < ((537 : Nat) : Int); omega) ?_
      have hC7 := hC6.pr (w := 6) (v := (R i.toNat 6) + ((H (5 + 9 * i.toNat)) - (R i.toNat 0))) hL (by show ((232 + (11 * i)) + 6).toNat = 232 + 11 * i.toNat + 6; omega) (by show i.toNat < 8; omega) (by decide)
      refine w_ret ?_
      have e1 : ye_se H i z = (H (4 + 9 * i.toNat)) := by unfold ye_se; split <;> omega
      have e2 : ye_in H R i z = (H (5 + 9 * i.toNat)) - (R i.toNat 0) := by unfold ye_in; rw [e1]; split <;> omega
      exact w_ret (h _ (hC7.cg (fun j _ _ => by unfold ye_c1; rw [e1, e2]) (by unfold ye_cR; rw [e2]; exact ye_ru_c (ye_11 rfl rfl rfl rfl rfl rfl rfl rfl rfl rfl rfl))))
    · skip
      refine w_iln rfl ?_
      refine w_iln rfl ?_
      refine w_sub ⟨by show (-2147483648 : Int) ≤ z - (H (4 + 9 * i.toNat)); omega, by show z - (H (4 + 9 * i.toNat)) < (2147483648 : Int); omega⟩ ?_
      refine w_goto ?_
      refine w_is ?_
      show wz _ _ _ _ [some (.inr (.inr (some m))), some (.inl i), some (.inl z), some (.inl (H (4 + 9 * i.toNat))), some (.inl ((H (5 + 9 * i.toNat)) - (R i.toNat 0))), some (.inl (z - (H (4 + 9 * i.toNat))))] _ _ _ _ _
      refine w_aln rfl ?_
      refine w_gr hL.gm rfl (by decide) rfl (hC.vr hL.m6) ?_
      refine w_sp ?_
      refine w_dup2 ?_
      refine w_iald (v := (g 228)) hL.gs rfl (by show (0 : Int) ≤ 228; omega) (by show 228 < ((537 : Nat) : Int); omega) (hC.vg (k := 228) (by decide) (by decide)) ?_
      refine w_iln rfl ?_
      refine w_add ⟨by show (-2147483648 : Int) ≤ (g 228) + (H (4 + 9 * i.toNat)); omega, by show (g 228) + (H (4 + 9 * i.toNat)) < (2147483648 : Int); omega⟩ ?_
      refine w_iast hL.gs rfl (by decide) (by show (0 : Int) ≤ 228; omega) (by show 228 < ((537 : Nat) : Int); omega) ?_
      have hC8 := hC.pg (k := 228) (v := (g 228) + (H (4 + 9 * i.toNat))) hL (by decide) (by decide) (by show (228 : Int).toNat = 228; omega)
      refine w_aln rfl ?_
      refine w_gr hL.gm rfl (by decide) rfl (hC8.vr hL.m6) ?_
      refine w_sp ?_
      refine w_dup2 ?_
      refine w_iald (v := (g 229)) hL.gs rfl (by show (0 : Int) ≤ 229; omega) (by show 229 < ((537 : Nat) : Int); omega) ((hC8.vg (k := 229) (by decide) (by decide)).trans ((rv_up_n (by decide)))) ?_
      refine w_iln rfl ?_
      refine w_iln rfl ?_
      refine w_sub ⟨by show (-2147483648 : Int) ≤ z - (H (4 + 9 * i.toNat)); omega, by show z - (H (4 + 9 * i.toNat)) < (2147483648 : Int); omega⟩ ?_
      refine w_il rfl ?_
      refine w_sub ⟨by show (-2147483648 : Int) ≤ (z - (H (4 + 9 * i.toNat))) - (z - (H (4 + 9 * i.toNat))); omega, by show (z - (H (4 + 9 * i.toNat))) - (z - (H (4 + 9 * i.toNat))) < (2147483648 : Int); omega⟩ ?_
      refine w_add ⟨by show (-2147483648 : Int) ≤ (g 229) + ((z - (H (4 + 9 * i.toNat))) - (z - (H (4 + 9 * i.toNat)))); omega, by show (g 229) + ((z - (H (4 + 9 * i.toNat))) - (z - (H (4 + 9 * i.toNat)))) < (2147483648 : Int); omega⟩ ?_
      refine w_iast hL.gs rfl (by decide) (by show (0 : Int) ≤ 229; omega) (by show 229 < ((537 : Nat) : Int); omega) ?_
      have hC9 := hC8.pg (k := 229) (v := (g 229) + ((z - (H (4 + 9 * i.toNat))) - (z - (H (4 + 9 * i.toNat))))) hL (by decide) (by decide) (by show (229 : Int).toNat = 229; omega)
      refine w_aln rfl ?_
      refine w_iln rfl ?_
      refine w_ic ?_
      refine w_il rfl ?_
      refine w_cv (st := []) rfl hL.gm rfl (Nat.le_of_ble_eq_true rfl) (fun kk h => h) ⟨Nat.le_of_ble_eq_true rfl, ?_⟩
      show wz (d) mt_X12_more.2.2.2.2.1 _ mt_X12_more.2.2.2.2.1 [some (.inr (.inr (some m))), some (.inl i), some (.inl 0), some (.inl (z - (H (4 + 9 * i.toNat))))] [] _ _ _ _
      refine w_aln rfl ?_
      refine w_gr hL.gm rfl (by decide) rfl (hC9.vr hL.m6) ?_
      refine w_sp ?_
      refine w_bp ?_
      refine w_iln rfl ?_
      refine w_mul ⟨by show (-2147483648 : Int) ≤ 11 * i; omega, by show 11 * i < (2147483648 : Int); omega⟩ ?_
      refine w_add ⟨by show (-2147483648 : Int) ≤ 232 + (11 * i); omega, by show 232 + (11 * i) < (2147483648 : Int); omega⟩ ?_
      refine w_iln rfl ?_
      refine w_add ⟨by show (-2147483648 : Int) ≤ (232 + (11 * i)) + 0; omega, by show (232 + (11 * i)) + 0 < (2147483648 : Int); omega⟩ ?_
      refine w_dup2 ?_
      refine w_iald (v := (R i.toNat 0)) hL.gs rfl (by show (0 : Int) ≤ (232 + (11 * i)) + 0; omega) (by show (232 + (11 * i)) + 0 < ((537 : Nat) : Int); omega) (hC9.vR (w := 0) (by show ((232 + (11 * i)) + 0).toNat = 232 + 11 * i.toNat + 0; omega) (by show i.toNat < 8; omega) (by decide)) ?_
      refine w_iln rfl ?_
      refine w_add ⟨by show (-2147483648 : Int) ≤ (R i.toNat 0) + (z - (H (4 + 9 * i.toNat))); omega, by show (R i.toNat 0) + (z - (H (4 + 9 * i.toNat))) < (2147483648 : Int); omega⟩ ?_
      refine w_iast hL.gs rfl (by decide) (by show (0 : Int) ≤ (232 + (11 * i)) + 0; omega) (by show (232 + (11 * i)) + 0 < ((537 : Nat) : Int); omega) ?_
      have hC10 := hC9.op i.toNat
      have hC11 := hC10.pr (w := 0) (v := (R i.toNat 0) + (z - (H (4 + 9 * i.toNat)))) hL (by show ((232 + (11 * i)) + 0).toNat = 232 + 11 * i.toNat + 0; omega) (by show i.toNat < 8; omega) (by decide)
      refine w_ret ?_
      refine w_aln rfl ?_
      refine w_iln rfl ?_
      refine w_bp ?_
      refine w_il rfl ?_
      refine w_cv (st := []) rfl hL.gm rfl (Nat.le_of_ble_eq_true rfl) (fun kk h => h) ⟨Nat.le_of_ble_eq_true rfl, ?_⟩
      show wz (d) mt_X12_more.2.2.2.2.1 _ mt_X12_more.2.2.2.2.1 [some (.inr (.inr (some m))), some (.inl i), some (.inl 6), some (.inl (z - (H (4 + 9 * i.toNat))))] [] _ _ _ _
      refine w_aln rfl ?_
      refine w_gr hL.gm rfl (by decide) rfl (hC11.vr hL.m6) ?_
      refine w_sp ?_
      refine w_bp ?_
      refine w_iln rfl ?_
      refine w_mul ⟨by show (-2147483648 : Int) ≤ 11 * i; omega, by show 11 * i < (2147483648 : Int); omega⟩ ?_
      refine w_add ⟨by show (-2147483648 : Int) ≤ 232 + (11 * i); omega, by show 232 + (11 * i) < (2147483648 : Int); omega⟩ ?_
      refine w_iln rfl ?_
      refine w_add ⟨by show (-2147483648 : Int) ≤ (232 + (11 * i)) + 6; omega, by show (232 + (11 * i)) + 6 < (2147483648 : Int); omega⟩ ?_
      refine w_dup2 ?_
      refine w_iald (v := (R i.toNat 6)) hL.gs rfl (by show (0 : Int) ≤ (232 + (11 * i)) + 6; omega) (by show (232 + (11 * i)) + 6 < ((537 : Nat) : Int); omega) ((hC11.rr (w := 6) (by show ((232 + (11 * i)) + 6).toNat = 232 + 11 * i.toNat + 6; omega) (by show i.toNat < 8; omega) (by decide)).trans ((rv_up_n (by decide)))) ?_
      refine w_iln rfl ?_
      refine w_add ⟨by show (-2147483648 : Int) ≤ (R i.toNat 6) + (z - (H (4 + 9 * i.toNat))); omega, by show (R i.toNat 6) + (z - (H (4 + 9 * i.toNat))) < (2147483648 : Int); omega⟩ ?_
      refine w_iast hL.gs rfl (by decide) (by show (0 : Int) ≤ (232 + (11 * i)) + 6; omega) (by show (232 + (11 * i)) + 6 < ((537 : Nat) : Int); omega) ?_
      have hC12 := hC11.pr (w := 6) (v := (R i.toNat 6) + (z - (H (4 + 9 * i.toNat)))) hL (by show ((232 + (11 * i)) + 6).toNat = 232 + 11 * i.toNat + 6; omega) (by show i.toNat < 8; omega) (by decide)
      refine w_ret ?_
      have e1 : ye_se H i z = (H (4 + 9 * i.toNat)) := by unfold ye_se; split <;> omega
      have e2 : ye_in H R i z = z - (H (4 + 9 * i.toNat)) := by unfold ye_in; rw [e1]; split <;> omega
      exact w_ret (h _ (hC12.cg (fun j _ _ => by unfold ye_c1; rw [e1, e2]) (by unfold ye_cR; rw [e2]; exact ye_ru_c (ye_11 rfl rfl rfl rfl rfl rfl rfl rfl rfl rfl rfl))))
  · skip
    refine w_iln rfl ?_
    refine w_goto ?_
    refine w_isn ?_
    show wz _ _ _ _ [some (.inr (.inr (some m))), some (.inl i), some (.inl z), some (.inl z), none, none] _ _ _ _ _
    refine w_aln rfl ?_
    refine w_iln rfl ?_
    refine w_ic ?_
    refine w_cv (st := []) rfl hL.gm rfl (Nat.le_of_ble_eq_true rfl) (fun kk h => h) ⟨Nat.le_of_ble_eq_true rfl, ?_⟩
    show wz (d) mt_X12_toldOf.2.2.2.2.1 _ mt_X12_toldOf.2.2.2.2.1 [some (.inr (.inr (some m))), some (.inl i), some (.inl 1)] [] _ _ _ _
    refine w_aln rfl ?_
    refine w_gr hL.gm rfl (by decide) rfl (hC.vr hL.m6) ?_
    refine w_ic ?_
    refine w_bp ?_
    refine w_iln rfl ?_
    refine w_mul ⟨by show (-2147483648 : Int) ≤ 9 * i; omega, by show 9 * i < (2147483648 : Int); omega⟩ ?_
    refine w_add ⟨by show (-2147483648 : Int) ≤ 4 + (9 * i); omega, by show 4 + (9 * i) < (2147483648 : Int); omega⟩ ?_
    refine w_iln rfl ?_
    refine w_add ⟨by show (-2147483648 : Int) ≤ (4 + (9 * i)) + 1; omega, by show (4 + (9 * i)) + 1 < (2147483648 : Int); omega⟩ ?_
    refine w_iald (v := (H (5 + 9 * i.toNat))) hL.gs rfl (by show (0 : Int) ≤ (4 + (9 * i)) + 1; omega) (by show (4 + (9 * i)) + 1 < ((537 : Nat) : Int); omega) (hC.vn hL (by show ((4 + (9 * i)) + 1).toNat = 5 + 9 * i.toNat; omega) (by show 5 + 9 * i.toNat < 221; omega)) ?_
    refine w_iret (fun q => by cases q) ?_
    refine w_aln rfl ?_
    refine w_iln rfl ?_
    refine w_ic ?_
    refine w_cv (st := [.inl (H (5 + 9 * i.toNat))]) rfl hL.gm rfl (Nat.le_of_ble_eq_true rfl) (fun kk h => h) ⟨Nat.le_of_ble_eq_true rfl, ?_⟩
    show wz (d) mt_X12_of.2.2.2.2.1 _ mt_X12_of.2.2.2.2.1 [some (.inr (.inr (some m))), some (.inl i), some (.inl 0)] [] _ _ _ _
    refine w_aln rfl ?_
    refine w_gr hL.gm rfl (by decide) rfl (hC.vr hL.m6) ?_
    refine w_sp ?_
    refine w_bp ?_
    refine w_iln rfl ?_
    refine w_mul ⟨by show (-2147483648 : Int) ≤ 11 * i; omega, by show 11 * i < (2147483648 : Int); omega⟩ ?_
    refine w_add ⟨by show (-2147483648 : Int) ≤ 232 + (11 * i); omega, by show 232 + (11 * i) < (2147483648 : Int); omega⟩ ?_
    refine w_iln rfl ?_
    refine w_add ⟨by show (-2147483648 : Int) ≤ (232 + (11 * i)) + 0; omega, by show (232 + (11 * i)) + 0 < (2147483648 : Int); omega⟩ ?_
    refine w_iald (v := (R i.toNat 0)) hL.gs rfl (by show (0 : Int) ≤ (232 + (11 * i)) + 0; omega) (by show (232 + (11 * i)) + 0 < ((537 : Nat) : Int); omega) (hC.vR (w := 0) (by show ((232 + (11 * i)) + 0).toNat = 232 + 11 * i.toNat + 0; omega) (by show i.toNat < 8; omega) (by decide)) ?_
    refine w_iret (fun q => by cases q) ?_
    refine w_sub ⟨by show (-2147483648 : Int) ≤ (H (5 + 9 * i.toNat)) - (R i.toNat 0); omega, by show (H (5 + 9 * i.toNat)) - (R i.toNat 0) < (2147483648 : Int); omega⟩ ?_
    refine w_is ?_
    show wz _ _ _ _ [some (.inr (.inr (some m))), some (.inl i), some (.inl z), some (.inl z), some (.inl ((H (5 + 9 * i.toNat)) - (R i.toNat 0))), none] _ _ _ _ _
    refine w_iln rfl ?_
    refine w_iln rfl ?_
    refine w_sub ⟨by show (-2147483648 : Int) ≤ z - z; omega, by show z - z < (2147483648 : Int); omega⟩ ?_
    refine w_il rfl ?_
    refine w_cmge (fun c13 => ?_) (fun c13 => ?_)
    · skip
      refine w_il rfl ?_
      refine w_is ?_
      show wz _ _ _ _ [some (.inr (.inr (some m))), some (.inl i), some (.inl z), some (.inl z), some (.inl ((H (5 + 9 * i.toNat)) - (R i.toNat 0))), some (.inl ((H (5 + 9 * i.toNat)) - (R i.toNat 0)))] _ _ _ _ _
      refine w_aln rfl ?_
      refine w_gr hL.gm rfl (by decide) rfl (hC.vr hL.m6) ?_
      refine w_sp ?_
      refine w_dup2 ?_
      refine w_iald (v := (g 228)) hL.gs rfl (by show (0 : Int) ≤ 228; omega) (by show 228 < ((537 : Nat) : Int); omega) (hC.vg (k := 228) (by decide) (by decide)) ?_
      refine w_iln rfl ?_
      refine w_add ⟨by show (-2147483648 : Int) ≤ (g 228) + z; omega, by show (g 228) + z < (2147483648 : Int); omega⟩ ?_
      refine w_iast hL.gs rfl (by decide) (by show (0 : Int) ≤ 228; omega) (by show 228 < ((537 : Nat) : Int); omega) ?_
      have hC14 := hC.pg (k := 228) (v := (g 228) + z) hL (by decide) (by decide) (by show (228 : Int).toNat = 228; omega)
      refine w_aln rfl ?_
      refine w_gr hL.gm rfl (by decide) rfl (hC14.vr hL.m6) ?_
      refine w_sp ?_
      refine w_dup2 ?_
      refine w_iald (v := (g 229)) hL.gs rfl (by show (0 : Int) ≤ 229; omega) (by show 229 < ((537 : Nat) : Int); omega) ((hC14.vg (k := 229) (by decide) (by decide)).trans ((rv_up_n (by decide)))) ?_
      refine w_iln rfl ?_
      refine w_iln rfl ?_
      refine w_sub ⟨by show (-2147483648 : Int) ≤ z - z; omega, by show z - z < (2147483648 : Int); omega⟩ ?_
      refine w_il rfl ?_
      refine w_sub ⟨by show (-2147483648 : Int) ≤ (z - z) - ((H (5 + 9 * i.toNat)) - (R i.toNat 0)); omega, by show (z - z) - ((H (5 + 9 * i.toNat)) - (R i.toNat 0)) < (2147483648 : Int); omega⟩ ?_
      refine w_add ⟨by show (-2147483648 : Int) ≤ (g 229) + ((z - z) - ((H (5 + 9 * i.toNat)) - (R i.toNat 0))); omega, by show (g 229) + ((z - z) - ((H (5 + 9 * i.toNat)) - (R i.toNat 0))) < (2147483648 : Int); omega⟩ ?_
      refine w_iast hL.gs rfl (by decide) (by show (0 : Int) ≤ 229; omega) (by show 229 < ((537 : Nat) : Int); omega) ?_
      have hC15 := hC14.pg (k := 229) (v := (g 229) + ((z - z) - ((H (5 + 9 * i.toNat)) - (R i.toNat 0)))) hL (by decide) (by decide) (by show (229 : Int).toNat = 229; omega)
      refine w_aln rfl ?_
      refine w_iln rfl ?_
      refine w_ic ?_
      refine w_il rfl ?_
      refine w_cv (st := []) rfl hL.gm rfl (Nat.le_of_ble_eq_true rfl) (fun kk h => h) ⟨Nat.le_of_ble_eq_true rfl, ?_⟩
      show wz (d) mt_X12_more.2.2.2.2.1 _ mt_X12_more.2.2.2.2.1 [some (.inr (.inr (some m))), some (.inl i), some (.inl 0), some (.inl ((H (5 + 9 * i.toNat)) - (R i.toNat 0)))] [] _ _ _ _
      refine w_aln rfl ?_
      refine w_gr hL.gm rfl (by decide) rfl (hC15.vr hL.m6) ?_
      refine w_sp ?_
      refine w_bp ?_
      refine w_iln rfl ?_
      refine w_mul ⟨by show (-2147483648 : Int) ≤ 11 * i; omega, by show 11 * i < (2147483648 : Int); omega⟩ ?_
      refine w_add ⟨by show (-2147483648 : Int) ≤ 232 + (11 * i); omega, by show 232 + (11 * i) < (2147483648 : Int); omega⟩ ?_
      refine w_iln rfl ?_
      refine w_add ⟨by show (-2147483648 : Int) ≤ (232 + (11 * i)) + 0; omega, by show (232 + (11 * i)) + 0 < (2147483648 : Int); omega⟩ ?_
      refine w_dup2 ?_
      refine w_iald (v := (R i.toNat 0)) hL.gs rfl (by show (0 : Int) ≤ (232 + (11 * i)) + 0; omega) (by show (232 + (11 * i)) + 0 < ((537 : Nat) : Int); omega) (hC15.vR (w := 0) (by show ((232 + (11 * i)) + 0).toNat = 232 + 11 * i.toNat + 0; omega) (by show i.toNat < 8; omega) (by decide)) ?_
      refine w_iln rfl ?_
      refine w_add ⟨by show (-2147483648 : Int) ≤ (R i.toNat 0) + ((H (5 + 9 * i.toNat)) - (R i.toNat 0)); omega, by show (R i.toNat 0) + ((H (5 + 9 * i.toNat)) - (R i.toNat 0)) < (2147483648 : Int); omega⟩ ?_
      refine w_iast hL.gs rfl (by decide) (by show (0 : Int) ≤ (232 + (11 * i)) + 0; omega) (by show (232 + (11 * i)) + 0 < ((537 : Nat) : Int); omega) ?_
      have hC16 := hC15.op i.toNat
      have hC17 := hC16.pr (w := 0) (v := (R i.toNat 0) + ((H (5 + 9 * i.toNat)) - (R i.toNat 0))) hL (by show ((232 + (11 * i)) + 0).toNat = 232 + 11 * i.toNat + 0; omega) (by show i.toNat < 8; omega) (by decide)
      refine w_ret ?_
      refine w_aln rfl ?_
      refine w_iln rfl ?_
      refine w_bp ?_
      refine w_il rfl ?_
      refine w_cv (st := []) rfl hL.gm rfl (Nat.le_of_ble_eq_true rfl) (fun kk h => h) ⟨Nat.le_of_ble_eq_true rfl, ?_⟩
      show wz (d) mt_X12_more.2.2.2.2.1 _ mt_X12_more.2.2.2.2.1 [some (.inr (.inr (some m))), some (.inl i), some (.inl 6), some (.inl ((H (5 + 9 * i.toNat)) - (R i.toNat 0)))] [] _ _ _ _
      refine w_aln rfl ?_
      refine w_gr hL.gm rfl (by decide) rfl (hC17.vr hL.m6) ?_
      refine w_sp ?_
      refine w_bp ?_
      refine w_iln rfl ?_
      refine w_mul ⟨by show (-2147483648 : Int) ≤ 11 * i; omega, by show 11 * i < (2147483648 : Int); omega⟩ ?_
      refine w_add ⟨by show (-2147483648 : Int) ≤ 232 + (11 * i); omega, by show 232 + (11 * i) < (2147483648 : Int); omega⟩ ?_
      refine w_iln rfl ?_
      refine w_add ⟨by show (-2147483648 : Int) ≤ (232 + (11 * i)) + 6; omega, by show (232 + (11 * i)) + 6 < (2147483648 : Int); omega⟩ ?_
      refine w_dup2 ?_
      refine w_iald (v := (R i.toNat 6)) hL.gs rfl (by show (0 : Int) ≤ (232 + (11 * i)) + 6; omega) (by show (232 + (11 * i)) + 6 < ((537 : Nat) : Int); omega) ((hC17.rr (w := 6) (by show ((232 + (11 * i)) + 6).toNat = 232 + 11 * i.toNat + 6; omega) (by show i.toNat < 8; omega) (by decide)).trans ((rv_up_n (by decide)))) ?_
      refine w_iln rfl ?_
      refine w_add ⟨by show (-2147483648 : Int) ≤ (R i.toNat 6) + ((H (5 + 9 * i.toNat)) - (R i.toNat 0)); omega, by show (R i.toNat 6) + ((H (5 + 9 * i.toNat)) - (R i.toNat 0)) < (2147483648 : Int); omega⟩ ?_
      refine w_iast hL.gs rfl (by decide) (by show (0 : Int) ≤ (232 + (11 * i)) + 6; omega) (by show (232 + (11 * i)) + 6 < ((537 : Nat) : Int); omega) ?_
      have hC18 := hC17.pr (w := 6) (v := (R i.toNat 6) + ((H (5 + 9 * i.toNat)) - (R i.toNat 0))) hL (by show ((232 + (11 * i)) + 6).toNat = 232 + 11 * i.toNat + 6; omega) (by show i.toNat < 8; omega) (by decide)
      refine w_ret ?_
      have e1 : ye_se H i z = z := by unfold ye_se; split <;> omega
      have e2 : ye_in H R i z = (H (5 + 9 * i.toNat)) - (R i.toNat 0) := by unfold ye_in; rw [e1]; split <;> omega
      exact w_ret (h _ (hC18.cg (fun j _ _ => by unfold ye_c1; rw [e1, e2]) (by unfold ye_cR; rw [e2]; exact ye_ru_c (ye_11 rfl rfl rfl rfl rfl rfl rfl rfl rfl rfl rfl))))
    · skip
      refine w_iln rfl ?_
      refine w_iln rfl ?_
      refine w_sub ⟨by show (-2147483648 : Int) ≤ z - z; omega, by show z - z < (2147483648 : Int); omega⟩ ?_
      refine w_goto ?_
      refine w_is ?_
      show wz _ _ _ _ [some (.inr (.inr (some m))), some (.inl i), some (.inl z), some (.inl z), some (.inl ((H (5 + 9 * i.toNat)) - (R i.toNat 0))), some (.inl (z - z))] _ _ _ _ _
      refine w_aln rfl ?_
      refine w_gr hL.gm rfl (by decide) rfl (hC.vr hL.m6) ?_
      refine w_sp ?_
      refine w_dup2 ?_
      refine w_iald (v := (g 228)) hL.gs rfl (by show (0 : Int) ≤ 228; omega) (by show 228 < ((537 : Nat) : Int); omega) (hC.vg (k := 228) (by decide) (by decide)) ?_
      refine w_iln rfl ?_
      refine w_add ⟨by show (-2147483648 : Int) ≤ (g 228) + z; omega, by show (g 228) + z < (2147483648 : Int); omega⟩ ?_
      refine w_iast hL.gs rfl (by decide) (by show (0 : Int) ≤ 228; omega) (by show 228 < ((537 : Nat) : Int); omega) ?_
      have hC19 := hC.pg (k := 228) (v := (g 228) + z) hL (by decide) (by decide) (by show (228 : Int).toNat = 228; omega)
      refine w_aln rfl ?_
      refine w_gr hL.gm rfl (by decide) rfl (hC19.vr hL.m6) ?_
      refine w_sp ?_
      refine w_dup2 ?_
      refine w_iald (v := (g 229)) hL.gs rfl (by show (0 : Int) ≤ 229; omega) (by show 229 < ((537 : Nat) : Int); omega) ((hC19.vg (k := 229) (by decide) (by decide)).trans ((rv_up_n (by decide)))) ?_
      refine w_iln rfl ?_
      refine w_iln rfl ?_
      refine w_sub ⟨by show (-2147483648 : Int) ≤ z - z; omega, by show z - z < (2147483648 : Int); omega⟩ ?_
      refine w_il rfl ?_
      refine w_sub ⟨by show (-2147483648 : Int) ≤ (z - z) - (z - z); omega, by show (z - z) - (z - z) < (2147483648 : Int); omega⟩ ?_
      refine w_add ⟨by show (-2147483648 : Int) ≤ (g 229) + ((z - z) - (z - z)); omega, by show (g 229) + ((z - z) - (z - z)) < (2147483648 : Int); omega⟩ ?_
      refine w_iast hL.gs rfl (by decide) (by show (0 : Int) ≤ 229; omega) (by show 229 < ((537 : Nat) : Int); omega) ?_
      have hC20 := hC19.pg (k := 229) (v := (g 229) + ((z - z) - (z - z))) hL (by decide) (by decide) (by show (229 : Int).toNat = 229; omega)
      refine w_aln rfl ?_
      refine w_iln rfl ?_
      refine w_ic ?_
      refine w_il rfl ?_
      refine w_cv (st := []) rfl hL.gm rfl (Nat.le_of_ble_eq_true rfl) (fun kk h => h) ⟨Nat.le_of_ble_eq_true rfl, ?_⟩
      show wz (d) mt_X12_more.2.2.2.2.1 _ mt_X12_more.2.2.2.2.1 [some (.inr (.inr (some m))), some (.inl i), some (.inl 0), some (.inl (z - z))] [] _ _ _ _
      refine w_aln rfl ?_
      refine w_gr hL.gm rfl (by decide) rfl (hC20.vr hL.m6) ?_
      refine w_sp ?_
      refine w_bp ?_
      refine w_iln rfl ?_
      refine w_mul ⟨by show (-2147483648 : Int) ≤ 11 * i; omega, by show 11 * i < (2147483648 : Int); omega⟩ ?_
      refine w_add ⟨by show (-2147483648 : Int) ≤ 232 + (11 * i); omega, by show 232 + (11 * i) < (2147483648 : Int); omega⟩ ?_
      refine w_iln rfl ?_
      refine w_add ⟨by show (-2147483648 : Int) ≤ (232 + (11 * i)) + 0; omega, by show (232 + (11 * i)) + 0 < (2147483648 : Int); omega⟩ ?_
      refine w_dup2 ?_
      refine w_iald (v := (R i.toNat 0)) hL.gs rfl (by show (0 : Int) ≤ (232 + (11 * i)) + 0; omega) (by show (232 + (11 * i)) + 0 < ((537 : Nat) : Int); omega) (hC20.vR (w := 0) (by show ((232 + (11 * i)) + 0).toNat = 232 + 11 * i.toNat + 0; omega) (by show i.toNat < 8; omega) (by decide)) ?_
      refine w_iln rfl ?_
      refine w_add ⟨by show (-2147483648 : Int) ≤ (R i.toNat 0) + (z - z); omega, by show (R i.toNat 0) + (z - z) < (2147483648 : Int); omega⟩ ?_
      refine w_iast hL.gs rfl (by decide) (by show (0 : Int) ≤ (232 + (11 * i)) + 0; omega) (by show (232 + (11 * i)) + 0 < ((537 : Nat) : Int); omega) ?_
      have hC21 := hC20.op i.toNat
      have hC22 := hC21.pr (w := 0) (v := (R i.toNat 0) + (z - z)) hL (by show ((232 + (11 * i)) + 0).toNat = 232 + 11 * i.toNat + 0; omega) (by show i.toNat < 8; omega) (by decide)
      refine w_ret ?_
      refine w_aln rfl ?_
      refine w_iln rfl ?_
      refine w_bp ?_
      refine w_il rfl ?_
      refine w_cv (st := []) rfl hL.gm rfl (Nat.le_of_ble_eq_true rfl) (fun kk h => h) ⟨Nat.le_of_ble_eq_true rfl, ?_⟩
      show wz (d) mt_X12_more.2.2.2.2.1 _ mt_X12_more.2.2.2.2.1 [some (.inr (.inr (some m))), some (.inl i), some (.inl 6), some (.inl (z - z))] [] _ _ _ _
      refine w_aln rfl ?_
      refine w_gr hL.gm rfl (by decide) rfl (hC22.vr hL.m6) ?_
      refine w_sp ?_
      refine w_bp ?_
      refine w_iln rfl ?_
      refine w_mul ⟨by show (-2147483648 : Int) ≤ 11 * i; omega, by show 11 * i < (2147483648 : Int); omega⟩ ?_
      refine w_add ⟨by show (-2147483648 : Int) ≤ 232 + (11 * i); omega, by show 232 + (11 * i) < (2147483648 : Int); omega⟩ ?_
      refine w_iln rfl ?_
      refine w_add ⟨by show (-2147483648 : Int) ≤ (232 + (11 * i)) + 6; omega, by show (232 + (11 * i)) + 6 < (2147483648 : Int); omega⟩ ?_
      refine w_dup2 ?_
      refine w_iald (v := (R i.toNat 6)) hL.gs rfl (by show (0 : Int) ≤ (232 + (11 * i)) + 6; omega) (by show (232 + (11 * i)) + 6 < ((537 : Nat) : Int); omega) ((hC22.rr (w := 6) (by show ((232 + (11 * i)) + 6).toNat = 232 + 11 * i.toNat + 6; omega) (by show i.toNat < 8; omega) (by decide)).trans ((rv_up_n (by decide)))) ?_
      refine w_iln rfl ?_
      refine w_add ⟨by show (-2147483648 : Int) ≤ (R i.toNat 6) + (z - z); omega, by show (R i.toNat 6) + (z - z) < (2147483648 : Int); omega⟩ ?_
      refine w_iast hL.gs rfl (by decide) (by show (0 : Int) ≤ (232 + (11 * i)) + 6; omega) (by show (232 + (11 * i)) + 6 < ((537 : Nat) : Int); omega) ?_
      have hC23 := hC22.pr (w := 6) (v := (R i.toNat 6) + (z - z)) hL (by show ((232 + (11 * i)) + 6).toNat = 232 + 11 * i.toNat + 6; omega) (by show i.toNat < 8; omega) (by decide)
      refine w_ret ?_
      have e1 : ye_se H i z = z := by unfold ye_se; split <;> omega
      have e2 : ye_in H R i z = z - z := by unfold ye_in; rw [e1]; split <;> omega
      exact w_ret (h _ (hC23.cg (fun j _ _ => by unfold ye_c1; rw [e1, e2]) (by unfold ye_cR; rw [e2]; exact ye_ru_c (ye_11 rfl rfl rfl rfl rfl rfl rfl rfl rfl rfl rfl))))
theorem r_X12_uses {G : mj_G} {M M0 : mj_M} {s m : Nat} {H : Nat → Int} {g A B C : Nat → Int} {R : Nat → Nat → Int} {L O P : Int} {Q : mj_P} {d : Nat} (hL : yq_L G M0 s m H) {i : Int} (hC : yq_S s m M0 g A B C R L O P M) (hi : 0 ≤ i ∧ i ≤ 7) (hT : ∀ j, 4 ≤ j → j < 76 → 0 ≤ H j ∧ H j ≤ 999) (h3 : 1 ≤ H 3 ∧ H 3 ≤ 12) (r0 : 0 ≤ R i.toNat 0 ∧ R i.toNat 0 ≤ 999) (r2 : -1000000 ≤ R i.toNat 2 ∧ R i.toNat 2 ≤ 1000000) (r7 : -1000000 ≤ R i.toNat 7 ∧ R i.toNat 7 ≤ 1000000) (r8 : -1000000 ≤ R i.toNat 8 ∧ R i.toNat 8 ≤ 1000000) (r10 : -1000000 ≤ R i.toNat 10 ∧ R i.toNat 10 ≤ 1000000) (rs : R i.toNat 3 = 0 ∨ (R i.toNat 3 = 1 ∧ R i.toNat 0 = 0)) (rg : R i.toNat 10 ≤ R i.toNat 8) (rh : 0 ≤ R i.toNat 10) (rd : 0 ≤ R i.toNat 2) (q227 : -10000000 ≤ g 227 ∧ g 227 ≤ 10000000) (q229 : -10000000 ≤ g 229 ∧ g 229 ≤ 10000000) (h : ∀ M, yq_S s m M0 (rv_up (rv_up g 227 (g 227 + (ye_u H i.toNat (R i.toNat) + ye_fl H i.toNat (R i.toNat)))) 229 (g 229 + ye_sp H i.toNat (R i.toNat))) A B C (ye_ru R i.toNat (ye_dk H i.toNat (R i.toNat))) L O P M → Q none G M) : mj_R mj_tab (d + 2) 254 [.inr (.inr (some m)), .inl i] G M Q := by
  have t2 := hT (6 + 9 * i.toNat) (by omega) (by omega)
  have t7 := hT (11 + 9 * i.toNat) (by omega) (by omega)
  refine ⟨Nat.le_of_ble_eq_true rfl, ?_⟩
  show wz (d + 1) mt_X12_uses.2.2.2.2.1 _ mt_X12_uses.2.2.2.2.1 [some (.inr (.inr (some m))), some (.inl i), none, none, none] [] G M _ _
  refine w_aln rfl ?_
  refine w_iln rfl ?_
  refine w_ic ?_
  refine w_cv (st := []) rfl hL.gm rfl (Nat.le_of_ble_eq_true rfl) (fun kk h => h) ⟨Nat.le_of_ble_eq_true rfl, ?_⟩
  show wz (d) mt_X12_of.2.2.2.2.1 _ mt_X12_of.2.2.2.2.1 [some (.inr (.inr (some m))), some (.inl i), some (.inl 0)] [] _ _ _ _
  refine w_aln rfl ?_
  refine w_gr hL.gm rfl (by decide) rfl (hC.vr hL.m6) ?_
  refine w_sp ?_
  refine w_bp ?_
  refine w_iln rfl ?_
  refine w_mul ⟨by show (-2147483648 : Int) ≤ 11 * i; omega, by show 11 * i < (2147483648 : Int); omega⟩ ?_
  refine w_add ⟨by show (-2147483648 : Int) ≤ 232 + (11 * i); omega, by show 232 + (11 * i) < (2147483648 : Int); omega⟩ ?_
  refine w_iln rfl ?_
  refine w_add ⟨by show (-2147483648 : Int) ≤ (232 + (11 * i)) + 0; omega, by show (232 + (11 * i)) + 0 < (2147483648 : Int); omega⟩ ?_
  refine w_iald (v := (R i.toNat 0)) hL.gs rfl (by show (0 : Int) ≤ (232 + (11 * i)) + 0; omega) (by show (232 + (11 * i)) + 0 < ((537 : Nat) : Int); omega) (hC.vR (w := 0) (by show ((232 + (11 * i)) + 0).toNat = 232 + 11 * i.toNat + 0; omega) (by show i.toNat < 8; omega) (by decide)) ?_
  refine w_iret (fun q => by cases q) ?_
  refine w_aln rfl ?_
  refine w_iln rfl ?_
  refine w_ic ?_
  refine w_cv (st := [.inl (R i.toNat 0)]) rfl hL.gm rfl (Nat.le_of_ble_eq_true rfl) (fun kk h => h) ⟨Nat.le_of_ble_eq_true rfl, ?_⟩
  show wz (d) mt_X12_toldOf.2.2.2.2.1 _ mt_X12_toldOf.2.2.2.2.1 [some (.inr (.inr (some m))), some (.inl i), some (.inl 2)] [] _ _ _ _
  refine w_aln rfl ?_
  refine w_gr hL.gm rfl (by decide) rfl (hC.vr hL.m6) ?_
  refine w_ic ?_
  refine w_bp ?_
  refine w_iln rfl ?_
  refine w_mul ⟨by show (-2147483648 : Int) ≤ 9 * i; omega, by show 9 * i < (2147483648 : Int); omega⟩ ?_
  refine w_add ⟨by show (-2147483648 : Int) ≤ 4 + (9 * i); omega, by show 4 + (9 * i) < (2147483648 : Int); omega⟩ ?_
  refine w_iln rfl ?_
  refine w_add ⟨by show (-2147483648 : Int) ≤ (4 + (9 * i)) + 2; omega, by show (4 + (9 * i)) + 2 < (2147483648 : Int); omega⟩ ?_
  refine w_iald (v := (H (6 + 9 * i.toNat))) hL.gs rfl (by show (0 : Int) ≤ (4 + (9 * i)) + 2; omega) (by show (4 + (9 * i)) + 2 < ((537 : Nat) : Int); omega) (hC.vn hL (by show ((4 + (9 * i)) + 2).toNat = 6 + 9 * i.toNat; omega) (by show 6 + 9 * i.toNat < 221; omega)) ?_
  refine w_iret (fun q => by cases q) ?_
  refine w_cmge (fun c1 => ?_) (fun c1 => ?_)
  · skip
    refine w_aln rfl ?_
    refine w_iln rfl ?_
    refine w_ic ?_
    refine w_cv (st := []) rfl hL.gm rfl (Nat.le_of_ble_eq_true rfl) (fun kk h => h) ⟨Nat.le_of_ble_eq_true rfl, ?_⟩
    show wz (d) mt_X12_toldOf.2.2.2.2.1 _ mt_X12_toldOf.2.2.2.2.1 [some (.inr (.inr (some m))), some (.inl i), some (.inl 2)] [] _ _ _ _
    refine w_aln rfl ?_
    refine w_gr hL.gm rfl (by decide) rfl (hC.vr hL.m6) ?_
    refine w_ic ?_
    refine w_bp ?_
    refine w_iln rfl ?_
    refine w_mul ⟨by show (-2147483648 : Int) ≤ 9 * i; omega, by show 9 * i < (2147483648 : Int); omega⟩ ?_
    refine w_add ⟨by show (-2147483648 : Int) ≤ 4 + (9 * i); omega, by show 4 + (9 * i) < (2147483648 : Int); omega⟩ ?_
    refine w_iln rfl ?_
    refine w_add ⟨by show (-2147483648 : Int) ≤ (4 + (9 * i)) + 2; omega, by show (4 + (9 * i)) + 2 < (2147483648 : Int); omega⟩ ?_
    refine w_iald (v := (H (6 + 9 * i.toNat))) hL.gs rfl (by show (0 : Int) ≤ (4 + (9 * i)) + 2; omega) (by show (4 + (9 * i)) + 2 < ((537 : Nat) : Int); omega) (hC.vn hL (by show ((4 + (9 * i)) + 2).toNat = 6 + 9 * i.toNat; omega) (by show 6 + 9 * i.toNat < 221; omega)) ?_
    refine w_iret (fun q => by cases q) ?_
    refine w_isn ?_
    show wz _ _ _ _ [some (.inr (.inr (some m))), some (.inl i), some (.inl (H (6 + 9 * i.toNat))), none, none] _ _ _ _ _
    refine w_aln rfl ?_
    refine w_iln rfl ?_
    refine w_ic ?_
    refine w_iln rfl ?_
    refine w_neg ⟨by show (-2147483648 : Int) ≤ (H (6 + 9 * i.toNat)); omega, by show (H (6 + 9 * i.toNat)) < (2147483648 : Int); omega⟩ (by omega) ?_
    refine w_cv (st := []) rfl hL.gm rfl (Nat.le_of_ble_eq_true rfl) (fun kk h => h) ⟨Nat.le_of_ble_eq_true rfl, ?_⟩
    show wz (d) mt_X12_more.2.2.2.2.1 _ mt_X12_more.2.2.2.2.1 [some (.inr (.inr (some m))), some (.inl i), some (.inl 0), some (.inl (-(H (6 + 9 * i.toNat))))] [] _ _ _ _
    refine w_aln rfl ?_
    refine w_gr hL.gm rfl (by decide) rfl (hC.vr hL.m6) ?_
    refine w_sp ?_
    refine w_bp ?_
    refine w_iln rfl ?_
    refine w_mul ⟨by show (-2147483648 : Int) ≤ 11 * i; omega, by show 11 * i < (2147483648 : Int); omega⟩ ?_
    refine w_add ⟨by show (-2147483648 : Int) ≤ 232 + (11 * i); omega, by show 232 + (11 * i) < (2147483648 : Int); omega⟩ ?_
    refine w_iln rfl ?_
    refine w_add ⟨by show (-2147483648 : Int) ≤ (232 + (11 * i)) + 0; omega, by show (232 + (11 * i)) + 0 < (2147483648 : Int); omega⟩ ?_
    refine w_dup2 ?_
    refine w_iald (v := (R i.toNat 0)) hL.gs rfl (by show (0 : Int) ≤ (232 + (11 * i)) + 0; omega) (by show (232 + (11 * i)) + 0 < ((537 : Nat) : Int); omega) (hC.vR (w := 0) (by show ((232 + (11 * i)) + 0).toNat = 232 + 11 * i.toNat + 0; omega) (by show i.toNat < 8; omega) (by decide)) ?_
    refine w_iln rfl ?_
    refine w_add ⟨by show (-2147483648 : Int) ≤ (R i.toNat 0) + (-(H (6 + 9 * i.toNat))); omega, by show (R i.toNat 0) + (-(H (6 + 9 * i.toNat))) < (2147483648 : Int); omega⟩ ?_
    refine w_iast hL.gs rfl (by decide) (by show (0 : Int) ≤ (232 + (11 * i)) + 0; omega) (by show (232 + (11 * i)) + 0 < ((537 : Nat) : Int); omega) ?_
    have hC2 := hC.op i.toNat
    have hC3 := hC2.pr (w := 0) (v := (R i.toNat 0) + (-(H (6 + 9 * i.toNat)))) hL (by show ((232 + (11 * i)) + 0).toNat = 232 + 11 * i.toNat + 0; omega) (by show i.toNat < 8; omega) (by decide)
    refine w_ret ?_
    refine w_aln rfl ?_
    refine w_gr hL.gm rfl (by decide) rfl (hC3.vr hL.m6) ?_
    refine w_sp ?_
    refine w_dup2 ?_
    refine w_iald (v := (g 227)) hL.gs rfl (by show (0 : Int) ≤ 227; omega) (by show 227 < ((537 : Nat) : Int); omega) (hC3.vg (k := 227) (by decide) (by decide)) ?_
    refine w_iln rfl ?_
    refine w_add ⟨by show (-2147483648 : Int) ≤ (g 227) + (H (6 + 9 * i.toNat)); omega, by show (g 227) + (H (6 + 9 * i.toNat)) < (2147483648 : Int); omega⟩ ?_
    refine w_iast hL.gs rfl (by decide) (by show (0 : Int) ≤ 227; omega) (by show 227 < ((537 : Nat) : Int); omega) ?_
    have hC4 := hC3.pg (k := 227) (v := (g 227) + (H (6 + 9 * i.toNat))) hL (by decide) (by decide) (by show (227 : Int).toNat = 227; omega)
    refine w_iln rfl ?_
    refine w_aln rfl ?_
    refine w_iln rfl ?_
    refine w_ic ?_
    refine w_cv (st := [.inl (H (6 + 9 * i.toNat))]) rfl hL.gm rfl (Nat.le_of_ble_eq_true rfl) (fun kk h => h) ⟨Nat.le_of_ble_eq_true rfl, ?_⟩
    show wz (d) mt_X12_toldOf.2.2.2.2.1 _ mt_X12_toldOf.2.2.2.2.1 [some (.inr (.inr (some m))), some (.inl i), some (.inl 2)] [] _ _ _ _
    refine w_aln rfl ?_
    refine w_gr hL.gm rfl (by decide) rfl (hC4.vr hL.m6) ?_
    refine w_ic ?_
    refine w_bp ?_
    refine w_iln rfl ?_
    refine w_mul ⟨by show (-2147483648 : Int) ≤ 9 * i; omega, by show 9 * i < (2147483648 : Int); omega⟩ ?_
    refine w_add ⟨by show (-2147483648 : Int) ≤ 4 + (9 * i); omega, by show 4 + (9 * i) < (2147483648 : Int); omega⟩ ?_
    refine w_iln rfl ?_
    refine w_add ⟨by show (-2147483648 : Int) ≤ (4 + (9 * i)) + 2; omega, by show (4 + (9 * i)) + 2 < (2147483648 : Int); omega⟩ ?_
    refine w_iald (v := (H (6 + 9 * i.toNat))) hL.gs rfl (by show (0 : Int) ≤ (4 + (9 * i)) + 2; omega) (by show (4 + (9 * i)) + 2 < ((537 : Nat) : Int); omega) (hC4.vn hL (by show ((4 + (9 * i)) + 2).toNat = 6 + 9 * i.toNat; omega) (by show 6 + 9 * i.toNat < 221; omega)) ?_
    refine w_iret (fun q => by cases q) ?_
    refine w_cmge (fun c5 => ?_) (fun c5 => ?_)
    · skip
      refine w_ic ?_
      refine w_isn ?_
      show wz _ _ _ _ [some (.inr (.inr (some m))), some (.inl i), some (.inl (H (6 + 9 * i.toNat))), some (.inl 0), none] _ _ _ _ _
      refine w_iln rfl ?_
      refine w_ifeq (fun c6 => ?_) (fun c6 => ?_)
      · skip
        refine w_aln rfl ?_
        refine w_iln rfl ?_
        refine w_ic ?_
        refine w_aln rfl ?_
        refine w_iln rfl ?_
        refine w_ic ?_
        refine w_cv (st := [.inl 2, .inl i, .inr (.inr (some m))]) rfl hL.gm rfl (Nat.le_of_ble_eq_true rfl) (fun kk h => h) ⟨Nat.le_of_ble_eq_true rfl, ?_⟩
        show wz (d) mt_X12_of.2.2.2.2.1 _ mt_X12_of.2.2.2.2.1 [some (.inr (.inr (some m))), some (.inl i), some (.inl 2)] [] _ _ _ _
        refine w_aln rfl ?_
        refine w_gr hL.gm rfl (by decide) rfl (hC4.vr hL.m6) ?_
        refine w_sp ?_
        refine w_bp ?_
        refine w_iln rfl ?_
        refine w_mul ⟨by show (-2147483648 : Int) ≤ 11 * i; omega, by show 11 * i < (2147483648 : Int); omega⟩ ?_
        refine w_add ⟨by show (-2147483648 : Int) ≤ 232 + (11 * i); omega, by show 232 + (11 * i) < (2147483648 : Int); omega⟩ ?_
        refine w_iln rfl ?_
        refine w_add ⟨by show (-2147483648 : Int) ≤ (232 + (11 * i)) + 2; omega, by show (232 + (11 * i)) + 2 < (2147483648 : Int); omega⟩ ?_
        refine w_iald (v := (R i.toNat 2)) hL.gs rfl (by show (0 : Int) ≤ (232 + (11 * i)) + 2; omega) (by show (232 + (11 * i)) + 2 < ((537 : Nat) : Int); omega) ((hC4.rr (w := 2) (by show ((232 + (11 * i)) + 2).toNat = 232 + 11 * i.toNat + 2; omega) (by show i.toNat < 8; omega) (by decide)).trans ((rv_up_n (by decide)))) ?_
        refine w_iret (fun q => by cases q) ?_
        refine w_neg ⟨by show (-2147483648 : Int) ≤ (R i.toNat 2); omega, by show (R i.toNat 2) < (2147483648 : Int); omega⟩ (by omega) ?_
        refine w_cv (st := []) rfl hL.gm rfl (Nat.le_of_ble_eq_true rfl) (fun kk h => h) ⟨Nat.le_of_ble_eq_true rfl, ?_⟩
        show wz (d) mt_X12_more.2.2.2.2.1 _ mt_X12_more.2.2.2.2.1 [some (.inr (.inr (some m))), some (.inl i), some (.inl 2), some (.inl (-(R i.toNat 2)))] [] _ _ _ _
        refine w_aln rfl ?_
        refine w_gr hL.gm rfl (by decide) rfl (hC4.vr hL.m6) ?_
        refine w_sp ?_
        refine w_bp ?_
        refine w_iln rfl ?_
        refine w_mul ⟨by show (-2147483648 : Int) ≤ 11 * i; omega, by show 11 * i < (2147483648 : Int); omega⟩ ?_
        refine w_add ⟨by show (-2147483648 : Int) ≤ 232 + (11 * i); omega, by show 232 + (11 * i) < (2147483648 : Int); omega⟩ ?_
        refine w_iln rfl ?_
        refine w_add ⟨by show (-2147483648 : Int) ≤ (232 + (11 * i)) + 2; omega, by show (232 + (11 * i)) + 2 < (2147483648 : Int); omega⟩ ?_
        refine w_dup2 ?_
        refine w_iald (v := (R i.toNat 2)) hL.gs rfl (by show (0 : Int) ≤ (232 + (11 * i)) + 2; omega) (by show (232 + (11 * i)) + 2 < ((537 : Nat) : Int); omega) ((hC4.rr (w := 2) (by show ((232 + (11 * i)) + 2).toNat = 232 + 11 * i.toNat + 2; omega) (by show i.toNat < 8; omega) (by decide)).trans ((rv_up_n (by decide)))) ?_
        refine w_iln rfl ?_
        refine w_add ⟨by show (-2147483648 : Int) ≤ (R i.toNat 2) + (-(R i.toNat 2)); omega, by show (R i.toNat 2) + (-(R i.toNat 2)) < (2147483648 : Int); omega⟩ ?_
        refine w_iast hL.gs rfl (by decide) (by show (0 : Int) ≤ (232 + (11 * i)) + 2; omega) (by show (232 + (11 * i)) + 2 < ((537 : Nat) : Int); omega) ?_
        have hC7 := hC4.pr (w := 2) (v := (R i.toNat 2) + (-(R i.toNat 2))) hL (by show ((232 + (11 * i)) + 2).toNat = 232 + 11 * i.toNat + 2; omega) (by show i.toNat < 8; omega) (by decide)
        refine w_ret ?_
        refine w_aln rfl ?_
        refine w_iln rfl ?_
        refine w_ic ?_
        refine w_cv (st := []) rfl hL.gm rfl (Nat.le_of_ble_eq_true rfl) (fun kk h => h) ⟨Nat.le_of_ble_eq_true rfl, ?_⟩
        show wz (d) mt_X12_of.2.2.2.2.1 _ mt_X12_of.2.2.2.2.1 [some (.inr (.inr (some m))), some (.inl i), some (.inl 2)] [] _ _ _ _
        refine w_aln rfl ?_
        refine w_gr hL.gm rfl (by decide) rfl (hC7.vr hL.m6) ?_
        refine w_sp ?_
        refine w_bp ?_
        refine w_iln rfl ?_
        refine w_mul ⟨by show (-2147483648 : Int) ≤ 11 * i; omega, by show 11 * i < (2147483648 : Int); omega⟩ ?_
        refine w_add ⟨by show (-2147483648 : Int) ≤ 232 + (11 * i); omega, by show 232 + (11 * i) < (2147483648 : Int); omega⟩ ?_
        refine w_iln rfl ?_
        refine w_add ⟨by show (-2147483648 : Int) ≤ (232 + (11 * i)) + 2; omega, by show (232 + (11 * i)) + 2 < (2147483648 : Int); omega⟩ ?_
        refine w_iald (v := (R i.toNat 2) + (-(R i.toNat 2))) hL.gs rfl (by show (0 : Int) ≤ (232 + (11 * i)) + 2; omega) (by show (232 + (11 * i)) + 2 < ((537 : Nat) : Int); omega) ((hC7.rr (w := 2) (by show ((232 + (11 * i)) + 2).toNat = 232 + 11 * i.toNat + 2; omega) (by show i.toNat < 8; omega) (by decide)).trans (rv_up_s)) ?_
        refine w_iret (fun q => by cases q) ?_
        refine w_aln rfl ?_
        refine w_gr hL.gm rfl (by decide) rfl (hC7.vr hL.m6) ?_
        refine w_ic ?_
        refine w_iald (v := (H 3)) hL.gs rfl (by show (0 : Int) ≤ 3; omega) (by show 3 < ((537 : Nat) : Int); omega) (hC7.vn hL (by show (3 : Int).toNat = 3; omega) (by decide)) ?_
        refine w_cmlt (fun c8 => ?_) (fun c8 => ?_)
        · skip
          refine w_aln rfl ?_
          refine w_iln rfl ?_
          refine w_bp ?_
          refine w_cv (st := []) rfl hL.gm rfl (Nat.le_of_ble_eq_true rfl) (fun kk h => h) ⟨Nat.le_of_ble_eq_true rfl, ?_⟩
          show wz (d) mt_X12_toldOf.2.2.2.2.1 _ mt_X12_toldOf.2.2.2.2.1 [some (.inr (.inr (some m))), some (.inl i), some (.inl 7)] [] _ _ _ _
          refine w_aln rfl ?_
          refine w_gr hL.gm rfl (by decide) rfl (hC7.vr hL.m6) ?_
          refine w_ic ?_
          refine w_bp ?_
          refine w_iln rfl ?_
          refine w_mul ⟨by show (-2147483648 : Int) ≤ 9 * i; omega, by show 9 * i < (2147483648 : Int); omega⟩ ?_
          refine w_add ⟨by show (-2147483648 : Int) ≤ 4 + (9 * i); omega, by show 4 + (9 * i) < (2147483648 : Int); omega⟩ ?_
          refine w_iln rfl ?_
          refine w_add ⟨by show (-2147483648 : Int) ≤ (4 + (9 * i)) + 7; omega, by show (4 + (9 * i)) + 7 < (2147483648 : Int); omega⟩ ?_
          refine w_iald (v := (H (11 + 9 * i.toNat))) hL.gs rfl (by show (0 : Int) ≤ (4 + (9 * i)) + 7; omega) (by show (4 + (9 * i)) + 7 < ((537 : Nat) : Int); omega) (hC7.vn hL (by show ((4 + (9 * i)) + 7).toNat = 11 + 9 * i.toNat; omega) (by show 11 + 9 * i.toNat < 221; omega)) ?_
          refine w_iret (fun q => by cases q) ?_
          refine w_is ?_
          show wz _ _ _ _ [some (.inr (.inr (some m))), some (.inl i), some (.inl (H (6 + 9 * i.toNat))), some (.inl 0), some (.inl (H (11 + 9 * i.toNat)))] _ _ _ _ _
          refine w_il rfl ?_
          refine w_ifle (fun c9 => ?_) (fun c9 => ?_)
          · skip
            refine w_aln rfl ?_
            refine w_iln rfl ?_
            refine w_bp ?_
            refine w_aln rfl ?_
            refine w_iln rfl ?_
            refine w_bp ?_
            refine w_cv (st := [.inl 10, .inl i, .inr (.inr (some m))]) rfl hL.gm rfl (Nat.le_of_ble_eq_true rfl) (fun kk h => h) ⟨Nat.le_of_ble_eq_true rfl, ?_⟩
            show wz (d) mt_X12_of.2.2.2.2.1 _ mt_X12_of.2.2.2.2.1 [some (.inr (.inr (some m))), some (.inl i), some (.inl 10)] [] _ _ _ _
            refine w_aln rfl ?_
            refine w_gr hL.gm rfl (by decide) rfl (hC7.vr hL.m6) ?_
            refine w_sp ?_
            refine w_bp ?_
            refine w_iln rfl ?_
            refine w_mul ⟨by show (-2147483648 : Int) ≤ 11 * i; omega, by show 11 * i < (2147483648 : Int); omega⟩ ?_
            refine w_add ⟨by show (-2147483648 : Int) ≤ 232 + (11 * i); omega, by show 232 + (11 * i) < (2147483648 : Int); omega⟩ ?_
            refine w_iln rfl ?_
            refine w_add ⟨by show (-2147483648 : Int) ≤ (232 + (11 * i)) + 10; omega, by show (232 + (11 * i)) + 10 < (2147483648 : Int); omega⟩ ?_
            refine w_iald (v := (R i.toNat 10)) hL.gs rfl (by show (0 : Int) ≤ (232 + (11 * i)) + 10; omega) (by show (232 + (11 * i)) + 10 < ((537 : Nat) : Int); omega) ((hC7.rr (w := 10) (by show ((232 + (11 * i)) + 10).toNat = 232 + 11 * i.toNat + 10; omega) (by show i.toNat < 8; omega) (by decide)).trans ((rv_up_n (by decide)).trans ((rv_up_n (by decide))))) ?_
            refine w_iret (fun q => by cases q) ?_
            refine w_neg ⟨by show (-2147483648 : Int) ≤ (R i.toNat 10); omega, by show (R i.toNat 10) < (2147483648 : Int); omega⟩ (by omega) ?_
            refine w_cv (st := []) rfl hL.gm rfl (Nat.le_of_ble_eq_true rfl) (fun kk h => h) ⟨Nat.le_of_ble_eq_true rfl, ?_⟩
            show wz (d) mt_X12_more.2.2.2.2.1 _ mt_X12_more.2.2.2.2.1 [some (.inr (.inr (some m))), some (.inl i), some (.inl 10), some (.inl (-(R i.toNat 10)))] [] _ _ _ _
            refine w_aln rfl ?_
            refine w_gr hL.gm rfl (by decide) rfl (hC7.vr hL.m6) ?_
            refine w_sp ?_
            refine w_bp ?_
            refine w_iln rfl ?_
            refine w_mul ⟨by show (-2147483648 : Int) ≤ 11 * i; omega, by show 11 * i < (2147483648 : Int); omega⟩ ?_
            refine w_add ⟨by show (-2147483648 : Int) ≤ 232 + (11 * i); omega, by show 232 + (11 * i) < (2147483648 : Int); omega⟩ ?_
            refine w_iln rfl ?_
            refine w_add ⟨by show (-2147483648 : Int) ≤ (232 + (11 * i)) + 10; omega, by show (232 + (11 * i)) + 10 < (2147483648 : Int); omega⟩ ?_
            refine w_dup2 ?_
            refine w_iald (v := (R i.toNat 10)) hL.gs rfl (by show (0 : Int) ≤ (232 + (11 * i)) + 10; omega) (by show (232 + (11 * i)) + 10 < ((537 : Nat) : Int); omega) ((hC7.rr (w := 10) (by show ((232 + (11 * i)) + 10).toNat = 232 + 11 * i.toNat + 10; omega) (by show i.toNat < 8; omega) (by decide)).trans ((rv_up_n (by decide)).trans ((rv_up_n (by decide))))) ?_
            refine w_iln rfl ?_
            refine w_add ⟨by show (-2147483648 : Int) ≤ (R i.toNat 10) + (-(R i.toNat 10)); omega, by show (R i.toNat 10) + (-(R i.toNat 10)) < (2147483648 : Int); omega⟩ ?_
            refine w_iast hL.gs rfl (by decide) (by show (0 : Int) ≤ (232 + (11 * i)) + 10; omega) (by show (232 + (11 * i)) + 10 < ((537 : Nat) : Int); omega) ?_
            have hC10 := hC7.pr (w := 10) (v := (R i.toNat 10) + (-(R i.toNat 10))) hL (by show ((232 + (11 * i)) + 10).toNat = 232 + 11 * i.toNat + 10; omega) (by show i.toNat < 8; omega) (by decide)
            refine w_ret ?_
            have eu : ye_u H i.toNat (R i.toNat) = (H (6 + 9 * i.toNat)) := by unfold ye_u; split <;> omega
            have ed : ye_d H i.toNat (R i.toNat) = (R i.toNat 2) + (-(R i.toNat 2)) := by unfold ye_d; rw [eu]; split <;> omega
            have es : ye_sp H i.toNat (R i.toNat) = 0 := by unfold ye_sp; rw [ed, eu]; split <;> omega
            have ef : ye_fl H i.toNat (R i.toNat) = 0 := by unfold ye_fl; rw [es, eu]; split <;> omega
            have eg : ye_gr H i.toNat (R i.toNat) = (R i.toNat 10) + (-(R i.toNat 10)) := by unfold ye_gr; rw [es, eu]; split <;> omega
            obtain ⟨w0, w1, w2, w3, w4, w5, w6, w7, w8, w9, w10⟩ := ye_dkw (H := H) (t := i.toNat) (r := R i.toNat)
            refine w_ret (h _ (hC10.cg (ye_10 rfl rfl rfl rfl rfl ?_ rfl ?_ rfl rfl) (ye_ru_c (ye_11 ?_ ?_ ?_ ?_ ?_ ?_ ?_ ?_ ?_ ?_ ?_))))
            · refine (rv_up_s).trans (Eq.trans (b := g 227 + (ye_u H i.toNat (R i.toNat) + ye_fl H i.toNat (R i.toNat))) ?_ rfl)
              first | (rw [eu, ef]; done) | (rw [eu, ef]; omega)
            · refine ((rv_up_n (by decide))).trans (Eq.trans (b := g 229 + ye_sp H i.toNat (R i.toNat)) ?_ rfl)
              first | (rw [es]; done) | (rw [es]; omega)
            · refine ((rv_up_n (by decide)).trans ((rv_up_n (by decide)).trans (rv_up_s))).trans (Eq.trans ?_ w0.symm)
              first | (rw [eu, es, ef]; done) | (rw [eu, es, ef]; (try split) <;> omega)
            · exact ((rv_up_n (by decide)).trans ((rv_up_n (by decide)).trans ((rv_up_n (by decide))))).trans w1.symm
            · refine ((rv_up_n (by decide)).trans (rv_up_s)).trans (Eq.trans ?_ w2.symm)
              first | (rw [ed]; done) | (rw [ed]; (try split) <;> omega)
            · refine ((rv_up_n (by decide)).trans ((rv_up_n (by decide)).trans ((rv_up_n (by decide))))).trans (Eq.trans ?_ w3.symm)
              first | (rw [ed]; done) | (rw [ed]; (try split) <;> omega)
            · exact ((rv_up_n (by decide)).trans ((rv_up_n (by decide)).trans ((rv_up_n (by decide))))).trans w4.symm
            · exact ((rv_up_n (by decide)).trans ((rv_up_n (by decide)).trans ((rv_up_n (by decide))))).trans w5.symm
            · exact ((rv_up_n (by decide)).trans ((rv_up_n (by decide)).trans ((rv_up_n (by decide))))).trans w6.symm
            · refine ((rv_up_n (by decide)).trans ((rv_up_n (by decide)).trans ((rv_up_n (by decide))))).trans (Eq.trans ?_ w7.symm)
              first | (rw [eu]; done) | (rw [eu]; (try split) <;> omega)
            · refine ((rv_up_n (by decide)).trans ((rv_up_n (by decide)).trans ((rv_up_n (by decide))))).trans (Eq.trans ?_ w8.symm)
              first | (rw [eg]; done) | (rw [eg]; (try split) <;> omega)
            · exact ((rv_up_n (by decide)).trans ((rv_up_n (by decide)).trans ((rv_up_n (by decide))))).trans w9.symm
            · refine (rv_up_s).trans (Eq.trans ?_ w10.symm)
              first | (rw [eg]; done) | (rw [eg]; (try split) <;> omega)
            
          · skip
            refine w_aln rfl ?_
            refine w_iln rfl ?_
            refine w_ic ?_
            refine w_cv (st := []) rfl hL.gm rfl (Nat.le_of_ble_eq_true rfl) (fun kk h => h) ⟨Nat.le_of_ble_eq_true rfl, ?_⟩
            show wz (d) mt_X12_of.2.2.2.2.1 _ mt_X12_of.2.2.2.2.1 [some (.inr (.inr (some m))), some (.inl i), some (.inl 0)] [] _ _ _ _
            refine w_aln rfl ?_
            refine w_gr hL.gm rfl (by decide) rfl (hC7.vr hL.m6) ?_
            refine w_sp ?_
            refine w_bp ?_
            refine w_iln rfl ?_
            refine w_mul ⟨by show (-2147483648 : Int) ≤ 11 * i; omega, by show 11 * i < (2147483648 : Int); omega⟩ ?_
            refine w_add ⟨by show (-2147483648 : Int) ≤ 232 + (11 * i); omega, by show 232 + (11 * i) < (2147483648 : Int); omega⟩ ?_
            refine w_iln rfl ?_
            refine w_add ⟨by show (-2147483648 : Int) ≤ (232 + (11 * i)) + 0; omega, by show (232 + (11 * i)) + 0 < (2147483648 : Int); omega⟩ ?_
            refine w_iald (v := (R i.toNat 0) + (-(H (6 + 9 * i.toNat)))) hL.gs rfl (by show (0 : Int) ≤ (232 + (11 * i)) + 0; omega) (by show (232 + (11 * i)) + 0 < ((537 : Nat) : Int); omega) ((hC7.rr (w := 0) (by show ((232 + (11 * i)) + 0).toNat = 232 + 11 * i.toNat + 0; omega) (by show i.toNat < 8; omega) (by decide)).trans ((rv_up_n (by decide)).trans (rv_up_s))) ?_
            refine w_iret (fun q => by cases q) ?_
            refine w_il rfl ?_
            refine w_cmlt (fun c11 => ?_) (fun c11 => ?_)
            · skip
              refine w_aln rfl ?_
              refine w_iln rfl ?_
              refine w_bp ?_
              refine w_aln rfl ?_
              refine w_iln rfl ?_
              refine w_bp ?_
              refine w_cv (st := [.inl 10, .inl i, .inr (.inr (some m))]) rfl hL.gm rfl (Nat.le_of_ble_eq_true rfl) (fun kk h => h) ⟨Nat.le_of_ble_eq_true rfl, ?_⟩
              show wz (d) mt_X12_of.2.2.2.2.1 _ mt_X12_of.2.2.2.2.1 [some (.inr (.inr (some m))), some (.inl i), some (.inl 10)] [] _ _ _ _
              refine w_aln rfl ?_
              refine w_gr hL.gm rfl (by decide) rfl (hC7.vr hL.m6) ?_
              refine w_sp ?_
              refine w_bp ?_
              refine w_iln rfl ?_
              refine w_mul ⟨by show (-2147483648 : Int) ≤ 11 * i; omega, by show 11 * i < (2147483648 : Int); omega⟩ ?_
              refine w_add ⟨by show (-2147483648 : Int) ≤ 232 + (11 * i); omega, by show 232 + (11 * i) < (2147483648 : Int); omega⟩ ?_
              refine w_iln rfl ?_
              refine w_add ⟨by show (-2147483648 : Int) ≤ (232 + (11 * i)) + 10; omega, by show (232 + (11 * i)) + 10 < (2147483648 : Int); omega⟩ ?_
              refine w_iald (v := (R i.toNat 10)) hL.gs rfl (by show (0 : Int) ≤ (232 + (11 * i)) + 10; omega) (by show (232 + (11 * i)) + 10 < ((537 : Nat) : Int); omega) ((hC7.rr (w := 10) (by show ((232 + (11 * i)) + 10).toNat = 232 + 11 * i.toNat + 10; omega) (by show i.toNat < 8; omega) (by decide)).trans ((rv_up_n (by decide)).trans ((rv_up_n (by decide))))) ?_
              refine w_iret (fun q => by cases q) ?_
              refine w_neg ⟨by show (-2147483648 : Int) ≤ (R i.toNat 10); omega, by show (R i.toNat 10) < (2147483648 : Int); omega⟩ (by omega) ?_
              refine w_cv (st := []) rfl hL.gm rfl (Nat.le_of_ble_eq_true rfl) (fun kk h => h) ⟨Nat.le_of_ble_eq_true rfl, ?_⟩
              show wz (d) mt_X12_more.2.2.2.2.1 _ mt_X12_more.2.2.2.2.1 [some (.inr (.inr (some m))), some (.inl i), some (.inl 10), some (.inl (-(R i.toNat 10)))] [] _ _ _ _
              refine w_aln rfl ?_
              refine w_gr hL.gm rfl (by decide) rfl (hC7.vr hL.m6) ?_
              refine w_sp ?_
              refine w_bp ?_
              refine w_iln rfl ?_
              refine w_mul ⟨by show (-2147483648 : Int) ≤ 11 * i; omega, by show 11 * i < (2147483648 : Int); omega⟩ ?_
              refine w_add ⟨by show (-2147483648 : Int) ≤ 232 + (11 * i); omega, by show 232 + (11 * i) < (2147483648 : Int); omega⟩ ?_
              refine w_iln rfl ?_
              refine w_add ⟨by show (-2147483648 : Int) ≤ (232 + (11 * i)) + 10; omega, by show (232 + (11 * i)) + 10 < (2147483648 : Int); omega⟩ ?_
              refine w_dup2 ?_
              refine w_iald (v := (R i.toNat 10)) hL.gs rfl (by show (0 : Int) ≤ (232 + (11 * i)) + 10; omega) (by show (232 + (11 * i)) + 10 < ((537 : Nat) : Int); omega) ((hC7.rr (w := 10) (by show ((232 + (11 * i)) + 10).toNat = 232 + 11 * i.toNat + 10; omega) (by show i.toNat < 8; omega) (by decide)).trans ((rv_up_n (by decide)).trans ((rv_up_n (by decide))))) ?_
              refine w_iln rfl ?_
              refine w_add ⟨by show (-2147483648 : Int) ≤ (R i.toNat 10) + (-(R i.toNat 10)); omega, by show (R i.toNat 10) + (-(R i.toNat 10)) < (2147483648 : Int); omega⟩ ?_
              refine w_iast hL.gs rfl (by decide) (by show (0 : Int) ≤ (232 + (11 * i)) + 10; omega) (by show (232 + (11 * i)) + 10 < ((537 : Nat) : Int); omega) ?_
              have hC12 := hC7.pr (w := 10) (v := (R i.toNat 10) + (-(R i.toNat 10))) hL (by show ((232 + (11 * i)) + 10).toNat = 232 + 11 * i.toNat + 10; omega) (by show i.toNat < 8; omega) (by decide)
              refine w_ret ?_
              have eu : ye_u H i.toNat (R i.toNat) = (H (6 + 9 * i.toNat)) := by unfold ye_u; split <;> omega
              have ed : ye_d H i.toNat (R i.toNat) = (R i.toNat 2) + (-(R i.toNat 2)) := by unfold ye_d; rw [eu]; split <;> omega
              have es : ye_sp H i.toNat (R i.toNat) = 0 := by unfold ye_sp; rw [ed, eu]; split <;> omega
              have ef : ye_fl H i.toNat (R i.toNat) = 0 := by unfold ye_fl; rw [es, eu]; split <;> omega
              have eg : ye_gr H i.toNat (R i.toNat) = (R i.toNat 10) + (-(R i.toNat 10)) := by unfold ye_gr; rw [es, eu]; split <;> omega
              obtain ⟨w0, w1, w2, w3, w4, w5, w6, w7, w8, w9, w10⟩ := ye_dkw (H := H) (t := i.toNat) (r := R i.toNat)
              refine w_ret (h _ (hC12.cg (ye_10 rfl rfl rfl rfl rfl ?_ rfl ?_ rfl rfl) (ye_ru_c (ye_11 ?_ ?_ ?_ ?_ ?_ ?_ ?_ ?_ ?_ ?_ ?_))))
              · refine (rv_up_s).trans (Eq.trans (b := g 227 + (ye_u H i.toNat (R i.toNat) + ye_fl H i.toNat (R i.toNat))) ?_ rfl)
                first | (rw [eu, ef]; done) | (rw [eu, ef]; omega)
              · refine ((rv_up_n (by decide))).trans (Eq.trans (b := g 229 + ye_sp H i.toNat (R i.toNat)) ?_ rfl)
                first | (rw [es]; done) | (rw [es]; omega)
              · refine ((rv_up_n (by decide)).trans ((rv_up_n (by decide)).trans (rv_up_s))).trans (Eq.trans ?_ w0.symm)
                first | (rw [eu, es, ef]; done) | (rw [eu, es, ef]; (try split) <;> omega)
              · exact ((rv_up_n (by decide)).trans ((rv_up_n (by decide)).trans ((rv_up_n (by decide))))).trans w1.symm
              · refine ((rv_up_n (by decide)).trans (rv_up_s)).trans (Eq.trans ?_ w2.symm)
                first | (rw [ed]; done) | (rw [ed]; (try split) <;> omega)
              · refine ((rv_up_n (by decide)).trans ((rv_up_n (by decide)).trans ((rv_up_n (by decide))))).trans (Eq.trans ?_ w3.symm)
                first | (rw [ed]; done) | (rw [ed]; (try split) <;> omega)
              · exact ((rv_up_n (by decide)).trans ((rv_up_n (by decide)).trans ((rv_up_n (by decide))))).trans w4.symm
              · exact ((rv_up_n (by decide)).trans ((rv_up_n (by decide)).trans ((rv_up_n (by decide))))).trans w5.symm
              · exact ((rv_up_n (by decide)).trans ((rv_up_n (by decide)).trans ((rv_up_n (by decide))))).trans w6.symm
              · refine ((rv_up_n (by decide)).trans ((rv_up_n (by decide)).trans ((rv_up_n (by decide))))).trans (Eq.trans ?_ w7.symm)
                first | (rw [eu]; done) | (rw [eu]; (try split) <;> omega)
              · refine ((rv_up_n (by decide)).trans ((rv_up_n (by decide)).trans ((rv_up_n (by decide))))).trans (Eq.trans ?_ w8.symm)
                first | (rw [eg]; done) | (rw [eg]; (try split) <;> omega)
              · exact ((rv_up_n (by decide)).trans ((rv_up_n (by decide)).trans ((rv_up_n (by decide))))).trans w9.symm
              · refine (rv_up_s).trans (Eq.trans ?_ w10.symm)
                first | (rw [eg]; done) | (rw [eg]; (try split) <;> omega)
              
            · skip
              refine w_aln rfl ?_
              refine w_iln rfl ?_
              refine w_ic ?_
              refine w_il rfl ?_
              refine w_neg ⟨by show (-2147483648 : Int) ≤ (H (11 + 9 * i.toNat)); omega, by show (H (11 + 9 * i.toNat)) < (2147483648 : Int); omega⟩ (by omega) ?_
              refine w_cv (st := []) rfl hL.gm rfl (Nat.le_of_ble_eq_true rfl) (fun kk h => h) ⟨Nat.le_of_ble_eq_true rfl, ?_⟩
              show wz (d) mt_X12_more.2.2.2.2.1 _ mt_X12_more.2.2.2.2.1 [some (.inr (.inr (some m))), some (.inl i), some (.inl 0), some (.inl (-(H (11 + 9 * i.toNat))))] [] _ _ _ _
              refine w_aln rfl ?_
              refine w_gr hL.gm rfl (by decide) rfl (hC7.vr hL.m6) ?_
              refine w_sp ?_
              refine w_bp ?_
              refine w_iln rfl ?_
              refine w_mul ⟨by show (-2147483648 : Int) ≤ 11 * i; omega, by show 11 * i < (2147483648 : Int); omega⟩ ?_
              refine w_add ⟨by show (-2147483648 : Int) ≤ 232 + (11 * i); omega, by show 232 + (11 * i) < (2147483648 : Int); omega⟩ ?_
              refine w_iln rfl ?_
              refine w_add ⟨by show (-2147483648 : Int) ≤ (232 + (11 * i)) + 0; omega, by show (232 + (11 * i)) + 0 < (2147483648 : Int); omega⟩ ?_
              refine w_dup2 ?_
              refine w_iald (v := (R i.toNat 0) + (-(H (6 + 9 * i.toNat)))) hL.gs rfl (by show (0 : Int) ≤ (232 + (11 * i)) + 0; omega) (by show (232 + (11 * i)) + 0 < ((537 : Nat) : Int); omega) ((hC7.rr (w := 0) (by show ((232 + (11 * i)) + 0).toNat = 232 + 11 * i.toNat + 0; omega) (by show i.toNat < 8; omega) (by decide)).trans ((rv_up_n (by decide)).trans (rv_up_s))) ?_
              refine w_iln rfl ?_
              refine w_add ⟨by show (-2147483648 : Int) ≤ ((R i.toNat 0) + (-(H (6 + 9 * i.toNat)))) + (-(H (11 + 9 * i.toNat))); omega, by show ((R i.toNat 0) + (-(H (6 + 9 * i.toNat)))) + (-(H (11 + 9 * i.toNat))) < (2147483648 : Int); omega⟩ ?_
              refine w_iast hL.gs rfl (by decide) (by show (0 : Int) ≤ (232 + (11 * i)) + 0; omega) (by show (232 + (11 * i)) + 0 < ((537 : Nat) : Int); omega) ?_
              have hC13 := hC7.pr (w := 0) (v := ((R i.toNat 0) + (-(H (6 + 9 * i.toNat)))) + (-(H (11 + 9 * i.toNat)))) hL (by show ((232 + (11 * i)) + 0).toNat = 232 + 11 * i.toNat + 0; omega) (by show i.toNat < 8; omega) (by decide)
              refine w_ret ?_
              refine w_aln rfl ?_
              refine w_gr hL.gm rfl (by decide) rfl (hC13.vr hL.m6) ?_
              refine w_sp ?_
              refine w_dup2 ?_
              refine w_iald (v := (g 227) + (H (6 + 9 * i.toNat))) hL.gs rfl (by show (0 : Int) ≤ 227; omega) (by show 227 < ((537 : Nat) : Int); omega) ((hC13.vg (k := 227) (by decide) (by decide)).trans (rv_up_s)) ?_
              refine w_il rfl ?_
              refine w_add ⟨by show (-2147483648 : Int) ≤ ((g 227) + (H (6 + 9 * i.toNat))) + (H (11 + 9 * i.toNat)); omega, by show ((g 227) + (H (6 + 9 * i.toNat))) + (H (11 + 9 * i.toNat)) < (2147483648 : Int); omega⟩ ?_
              refine w_iast hL.gs rfl (by decide) (by show (0 : Int) ≤ 227; omega) (by show 227 < ((537 : Nat) : Int); omega) ?_
              have hC14 := hC13.pg (k := 227) (v := ((g 227) + (H (6 + 9 * i.toNat))) + (H (11 + 9 * i.toNat))) hL (by decide) (by decide) (by show (227 : Int).toNat = 227; omega)
              refine w_aln rfl ?_
              refine w_iln rfl ?_
              refine w_bp ?_
              refine w_ic ?_
              refine w_cv (st := []) rfl hL.gm rfl (Nat.le_of_ble_eq_true rfl) (fun kk h => h) ⟨Nat.le_of_ble_eq_true rfl, ?_⟩
              show wz (d) mt_X12_more.2.2.2.2.1 _ mt_X12_more.2.2.2.2.1 [some (.inr (.inr (some m))), some (.inl i), some (.inl 10), some (.inl 1)] [] _ _ _ _
              refine w_aln rfl ?_
              refine w_gr hL.gm rfl (by decide) rfl (hC14.vr hL.m6) ?_
              refine w_sp ?_
              refine w_bp ?_
              refine w_iln rfl ?_
              refine w_mul ⟨by show (-2147483648 : Int) ≤ 11 * i; omega, by show 11 * i < (2147483648 : Int); omega⟩ ?_
              refine w_add ⟨by show (-2147483648 : Int) ≤ 232 + (11 * i); omega, by show 232 + (11 * i) < (2147483648 : Int); omega⟩ ?_
              refine w_iln rfl ?_
              refine w_add ⟨by show (-2147483648 : Int) ≤ (232 + (11 * i)) + 10; omega, by show (232 + (11 * i)) + 10 < (2147483648 : Int); omega⟩ ?_
              refine w_dup2 ?_
              refine w_iald (v := (R i.toNat 10)) hL.gs rfl (by show (0 : Int) ≤ (232 + (11 * i)) + 10; omega) (by show (232 + (11 * i)) + 10 < ((537 : Nat) : Int); omega) ((hC14.rr (w := 10) (by show ((232 + (11 * i)) + 10).toNat = 232 + 11 * i.toNat + 10; omega) (by show i.toNat < 8; omega) (by decide)).trans ((rv_up_n (by decide)).trans ((rv_up_n (by decide)).trans ((rv_up_n (by decide)))))) ?_
              refine w_iln rfl ?_
              refine w_add ⟨by show (-2147483648 : Int) ≤ (R i.toNat 10) + 1; omega, by show (R i.toNat 10) + 1 < (2147483648 : Int); omega⟩ ?_
              refine w_iast hL.gs rfl (by decide) (by show (0 : Int) ≤ (232 + (11 * i)) + 10; omega) (by show (232 + (11 * i)) + 10 < ((537 : Nat) : Int); omega) ?_
              have hC15 := hC14.pr (w := 10) (v := (R i.toNat 10) + 1) hL (by show ((232 + (11 * i)) + 10).toNat = 232 + 11 * i.toNat + 10; omega) (by show i.toNat < 8; omega) (by decide)
              refine w_ret ?_
              refine w_aln rfl ?_
              refine w_iln rfl ?_
              refine w_bp ?_
              refine w_cv (st := []) rfl hL.gm rfl (Nat.le_of_ble_eq_true rfl) (fun kk h => h) ⟨Nat.le_of_ble_eq_true rfl, ?_⟩
              show wz (d) mt_X12_of.2.2.2.2.1 _ mt_X12_of.2.2.2.2.1 [some (.inr (.inr (some m))), some (.inl i), some (.inl 10)] [] _ _ _ _
              refine w_aln rfl ?_
              refine w_gr hL.gm rfl (by decide) rfl (hC15.vr hL.m6) ?_
              refine w_sp ?_
              refine w_bp ?_
              refine w_iln rfl ?_
              refine w_mul ⟨by show (-2147483648 : Int) ≤ 11 * i; omega, by show 11 * i < (2147483648 : Int); omega⟩ ?_
              refine w_add ⟨by show (-2147483648 : Int) ≤ 232 + (11 * i); omega, by show 232 + (11 * i) < (2147483648 : Int); omega⟩ ?_
              refine w_iln rfl ?_
              refine w_add ⟨by show (-2147483648 : Int) ≤ (232 + (11 * i)) + 10; omega, by show (232 + (11 * i)) + 10 < (2147483648 : Int); omega⟩ ?_
              refine w_iald (v := (R i.toNat 10) + 1) hL.gs rfl (by show (0 : Int) ≤ (232 + (11 * i)) + 10; omega) (by show (232 + (11 * i)) + 10 < ((537 : Nat) : Int); omega) ((hC15.rr (w := 10) (by show ((232 + (11 * i)) + 10).toNat = 232 + 11 * i.toNat + 10; omega) (by show i.toNat < 8; omega) (by decide)).trans (rv_up_s)) ?_
              refine w_iret (fun q => by cases q) ?_
              refine w_aln rfl ?_
              refine w_iln rfl ?_
              refine w_bp ?_
              refine w_cv (st := [.inl ((R i.toNat 10) + 1)]) rfl hL.gm rfl (Nat.le_of_ble_eq_true rfl) (fun kk h => h) ⟨Nat.le_of_ble_eq_true rfl, ?_⟩
              show wz (d) mt_X12_of.2.2.2.2.1 _ mt_X12_of.2.2.2.2.1 [some (.inr (.inr (some m))), some (.inl i), some (.inl 8)] [] _ _ _ _
              refine w_aln rfl ?_
              refine w_gr hL.gm rfl (by decide) rfl (hC15.vr hL.m6) ?_
              refine w_sp ?_
              refine w_bp ?_
              refine w_iln rfl ?_
              refine w_mul ⟨by show (-2147483648 : Int) ≤ 11 * i; omega, by show 11 * i < (2147483648 : Int); omega⟩ ?_
              refine w_add ⟨by show (-2147483648 : Int) ≤ 232 + (11 * i); omega, by show 232 + (11 * i) < (2147483648 : Int); omega⟩ ?_
              refine w_iln rfl ?_
              refine w_add ⟨by show (-2147483648 : Int) ≤ (232 + (11 * i)) + 8; omega, by show (232 + (11 * i)) + 8 < (2147483648 : Int); omega⟩ ?_
              refine w_iald (v := (R i.toNat 8)) hL.gs rfl (by show (0 : Int) ≤ (232 + (11 * i)) + 8; omega) (by show (232 + (11 * i)) + 8 < ((537 : Nat) : Int); omega) ((hC15.rr (w := 8) (by show ((232 + (11 * i)) + 8).toNat = 232 + 11 * i.toNat + 8; omega) (by show i.toNat < 8; omega) (by decide)).trans ((rv_up_n (by decide)).trans ((rv_up_n (by decide)).trans ((rv_up_n (by decide)).trans ((rv_up_n (by decide))))))) ?_
              refine w_iret (fun q => by cases q) ?_
              refine w_cmle (fun c16 => ?_) (fun c16 => ?_)
              · skip
                have eu : ye_u H i.toNat (R i.toNat) = (H (6 + 9 * i.toNat)) := by unfold ye_u; split <;> omega
                have ed : ye_d H i.toNat (R i.toNat) = (R i.toNat 2) + (-(R i.toNat 2)) := by unfold ye_d; rw [eu]; split <;> omega
                have es : ye_sp H i.toNat (R i.toNat) = 0 := by unfold ye_sp; rw [ed, eu]; split <;> omega
                have ef : ye_fl H i.toNat (R i.toNat) = (H (11 + 9 * i.toNat)) := by unfold ye_fl; rw [es, eu]; split <;> omega
                have eg : ye_gr H i.toNat (R i.toNat) = (R i.toNat 10) + 1 := by unfold ye_gr; rw [es, eu]; split <;> omega
                obtain ⟨w0, w1, w2, w3, w4, w5, w6, w7, w8, w9, w10⟩ := ye_dkw (H := H) (t := i.toNat) (r := R i.toNat)
                refine w_ret (h _ (hC15.cg (ye_10 rfl rfl rfl rfl rfl ?_ rfl ?_ rfl rfl) (ye_ru_c (ye_11 ?_ ?_ ?_ ?_ ?_ ?_ ?_ ?_ ?_ ?_ ?_))))
                · refine (rv_up_s).trans (Eq.trans (b := g 227 + (ye_u H i.toNat (R i.toNat) + ye_fl H i.toNat (R i.toNat))) ?_ rfl)
                  first | (rw [eu, ef]; done) | (rw [eu, ef]; omega)
                · refine ((rv_up_n (by decide)).trans ((rv_up_n (by decide)))).trans (Eq.trans (b := g 229 + ye_sp H i.toNat (R i.toNat)) ?_ rfl)
                  first | (rw [es]; done) | (rw [es]; omega)
                · refine ((rv_up_n (by decide)).trans (rv_up_s)).trans (Eq.trans ?_ w0.symm)
                  first | (rw [eu, es, ef]; done) | (rw [eu, es, ef]; (try split) <;> omega)
                · exact ((rv_up_n (by decide)).trans ((rv_up_n (by decide)).trans ((rv_up_n (by decide)).trans ((rv_up_n (by decide)))))).trans w1.symm
                · refine ((rv_up_n (by decide)).trans ((rv_up_n (by decide)).trans (rv_up_s))).trans (Eq.trans ?_ w2.symm)
                  first | (rw [ed]; done) | (rw [ed]; (try split) <;> omega)
                · refine ((rv_up_n (by decide)).trans ((rv_up_n (by decide)).trans ((rv_up_n (by decide)).trans ((rv_up_n (by decide)))))).trans (Eq.trans ?_ w3.symm)
                  first | (rw [ed]; done) | (rw [ed]; (try split) <;> omega)
                · exact ((rv_up_n (by decide)).trans ((rv_up_n (by decide)).trans ((rv_up_n (by decide)).trans ((rv_up_n (by decide)))))).trans w4.symm
                · exact ((rv_up_n (by decide)).trans ((rv_up_n (by decide)).trans ((rv_up_n (by decide)).trans ((rv_up_n (by decide)))))).trans w5.symm
                · exact ((rv_up_n (by decide)).trans ((rv_up_n (by decide)).trans ((rv_up_n (by decide)).trans ((rv_up_n (by decide)))))).trans w6.symm
                · refine ((rv_up_n (by decide)).trans ((rv_up_n (by decide)).trans ((rv_up_n (by decide)).trans ((rv_up_n (by decide)))))).trans (Eq.trans ?_ w7.symm)
                  first | (rw [eu]; done) | (rw [eu]; (try split) <;> omega)
                · refine ((rv_up_n (by decide)).trans ((rv_up_n (by decide)).trans ((rv_up_n (by decide)).trans ((rv_up_n (by decide)))))).trans (Eq.trans ?_ w8.symm)
                  first | (rw [eg]; done) | (rw [eg]; (try split) <;> omega)
                · exact ((rv_up_n (by decide)).trans ((rv_up_n (by decide)).trans ((rv_up_n (by decide)).trans ((rv_up_n (by decide)))))).trans w9.symm
                · refine (rv_up_s).trans (Eq.trans ?_ w10.symm)
                  first | (rw [eg]; done) | (rw [eg]; (try split) <;> omega)
                
              · skip
                refine w_aln rfl ?_
                refine w_iln rfl ?_
                refine w_bp ?_
                refine w_ic ?_
                refine w_cv (st := []) rfl hL.gm rfl (Nat.le_of_ble_eq_true rfl) (fun kk h => h) ⟨Nat.le_of_ble_eq_true rfl, ?_⟩
                show wz (d) mt_X12_more.2.2.2.2.1 _ mt_X12_more.2.2.2.2.1 [some (.inr (.inr (some m))), some (.inl i), some (.inl 8), some (.inl 1)] [] _ _ _ _
                refine w_aln rfl ?_
                refine w_gr hL.gm rfl (by decide) rfl (hC15.vr hL.m6) ?_
                refine w_sp ?_
                refine w_bp ?_
                refine w_iln rfl ?_
                refine w_mul ⟨by show (-2147483648 : Int) ≤ 11 * i; omega, by show 11 * i < (2147483648 : Int); omega⟩ ?_
                refine w_add ⟨by show (-2147483648 : Int) ≤ 232 + (11 * i); omega, by show 232 + (11 * i) < (2147483648 : Int); omega⟩ ?_
                refine w_iln rfl ?_
                refine w_add ⟨by show (-2147483648 : Int) ≤ (232 + (11 * i)) + 8; omega, by show (232 + (11 * i)) + 8 < (2147483648 : Int); omega⟩ ?_
                refine w_dup2 ?_
                refine w_iald (v := (R i.toNat 8)) hL.gs rfl (by show (0 : Int) ≤ (232 + (11 * i)) + 8; omega) (by show (232 + (11 * i)) + 8 < ((537 : Nat) : Int); omega) ((hC15.rr (w := 8) (by show ((232 + (11 * i)) + 8).toNat = 232 + 11 * i.toNat + 8; omega) (by show i.toNat < 8; omega) (by decide)).trans ((rv_up_n (by decide)).trans ((rv_up_n (by decide)).trans ((rv_up_n (by decide)).trans ((rv_up_n (by decide))))))) ?_
                refine w_iln rfl ?_
                refine w_add ⟨by show (-2147483648 : Int) ≤ (R i.toNat 8) + 1; omega, by show (R i.toNat 8) + 1 < (2147483648 : Int); omega⟩ ?_
                refine w_iast hL.gs rfl (by decide) (by show (0 : Int) ≤ (232 + (11 * i)) + 8; omega) (by show (232 + (11 * i)) + 8 < ((537 : Nat) : Int); omega) ?_
                have hC17 := hC15.pr (w := 8) (v := (R i.toNat 8) + 1) hL (by show ((232 + (11 * i)) + 8).toNat = 232 + 11 * i.toNat + 8; omega) (by show i.toNat < 8; omega) (by decide)
                refine w_ret ?_
                refine w_goto ?_
                have eu : ye_u H i.toNat (R i.toNat) = (H (6 + 9 * i.toNat)) := by unfold ye_u; split <;> omega
                have ed : ye_d H i.toNat (R i.toNat) = (R i.toNat 2) + (-(R i.toNat 2)) := by unfold ye_d; rw [eu]; split <;> omega
                have es : ye_sp H i.toNat (R i.toNat) = 0 := by unfold ye_sp; rw [ed, eu]; split <;> omega
                have ef : ye_fl H i.toNat (R i.toNat) = (H (11 + 9 * i.toNat)) := by unfold ye_fl; rw [es, eu]; split <;> omega
                have eg : ye_gr H i.toNat (R i.toNat) = (R i.toNat 10) + 1 := by unfold ye_gr; rw [es, eu]; split <;> omega
                obtain ⟨w0, w1, w2, w3, w4, w5, w6, w7, w8, w9, w10⟩ := ye_dkw (H := H) (t := i.toNat) (r := R i.toNat)
                refine w_ret (h _ (hC17.cg (ye_10 rfl rfl rfl rfl rfl ?_ rfl ?_ rfl rfl) (ye_ru_c (ye_11 ?_ ?_ ?_ ?_ ?_ ?_ ?_ ?_ ?_ ?_ ?_))))
                · refine (rv_up_s).trans (Eq.trans (b := g 227 + (ye_u H i.toNat (R i.toNat) + ye_fl H i.toNat (R i.toNat))) ?_ rfl)
                  first | (rw [eu, ef]; done) | (rw [eu, ef]; omega)
                · refine ((rv_up_n (by decide)).trans ((rv_up_n (by decide)))).trans (Eq.trans (b := g 229 + ye_sp H i.toNat (R i.toNat)) ?_ rfl)
                  first | (rw [es]; done) | (rw [es]; omega)
                · refine ((rv_up_n (by decide)).trans ((rv_up_n (by decide)).trans (rv_up_s))).trans (Eq.trans ?_ w0.symm)
                  first | (rw [eu, es, ef]; done) | (rw [eu, es, ef]; (try split) <;> omega)
                · exact ((rv_up_n (by decide)).trans ((rv_up_n (by decide)).trans ((rv_up_n (by decide)).trans ((rv_up_n (by decide)).trans ((rv_up_n (by decide))))))).trans w1.symm
                · refine ((rv_up_n (by decide)).trans ((rv_up_n (by decide)).trans ((rv_up_n (by decide)).trans (rv_up_s)))).trans (Eq.trans ?_ w2.symm)
                  first | (rw [ed]; done) | (rw [ed]; (try split) <;> omega)
                · refine ((rv_up_n (by decide)).trans ((rv_up_n (by decide)).trans ((rv_up_n (by decide)).trans ((rv_up_n (by decide)).trans ((rv_up_n (by decide))))))).trans (Eq.trans ?_ w3.symm)
                  first | (rw [ed]; done) | (rw [ed]; (try split) <;> omega)
                · exact ((rv_up_n (by decide)).trans ((rv_up_n (by decide)).trans ((rv_up_n (by decide)).trans ((rv_up_n (by decide)).trans ((rv_up_n (by decide))))))).trans w4.symm
                · exact ((rv_up_n (by decide)).trans ((rv_up_n (by decide)).trans ((rv_up_n (by decide)).trans ((rv_up_n (by decide)).trans ((rv_up_n (by decide))))))).trans w5.symm
                · exact ((rv_up_n (by decide)).trans ((rv_up_n (by decide)).trans ((rv_up_n (by decide)).trans ((rv_up_n (by decide)).trans ((rv_up_n (by decide))))))).trans w6.symm
                · refine ((rv_up_n (by decide)).trans ((rv_up_n (by decide)).trans ((rv_up_n (by decide)).trans ((rv_up_n (by decide)).trans ((rv_up_n (by decide))))))).trans (Eq.trans ?_ w7.symm)
                  first | (rw [eu]; done) | (rw [eu]; (try split) <;> omega)
                · refine (rv_up_s).trans (Eq.trans ?_ w8.symm)
                  first | (rw [eg]; done) | (rw [eg]; (try split) <;> omega)
                · exact ((rv_up_n (by decide)).trans ((rv_up_n (by decide)).trans ((rv_up_n (by decide)).trans ((rv_up_n (by decide)).trans ((rv_up_n (by decide))))))).trans w9.symm
                · refine ((rv_up_n (by decide)).trans (rv_up_s)).trans (Eq.trans ?_ w10.symm)
                  first | (rw [eg]; done) | (rw [eg]; (try split) <;> omega)
                
        · exfalso; omega
      · exfalso; omega
    · exfalso; omega
  · skip
    refine w_aln rfl ?_
    refine w_iln rfl ?_
    refine w_ic ?_
    refine w_cv (st := []) rfl hL.gm rfl (Nat.le_of_ble_eq_true rfl) (fun kk h => h) ⟨Nat.le_of_ble_eq_true rfl, ?_⟩
    show wz (d) mt_X12_of.2.2.2.2.1 _ mt_X12_of.2.2.2.2.1 [some (.inr (.inr (some m))), some (.inl i), some (.inl 0)] [] _ _ _ _
    refine w_aln rfl ?_
    refine w_gr hL.gm rfl (by decide) rfl (hC.vr hL.m6) ?_
    refine w_sp ?_
    refine w_bp ?_
    refine w_iln rfl ?_
    refine w_mul ⟨by show (-2147483648 : Int) ≤ 11 * i; omega, by show 11 * i < (2147483648 : Int); omega⟩ ?_
    refine w_add ⟨by show (-2147483648 : Int) ≤ 232 + (11 * i); omega, by show 232 + (11 * i) < (2147483648 : Int); omega⟩ ?_
    refine w_iln rfl ?_
    refine w_add ⟨by show (-2147483648 : Int) ≤ (232 + (11 * i)) + 0; omega, by show (232 + (11 * i)) + 0 < (2147483648 : Int); omega⟩ ?_
    refine w_iald (v := (R i.toNat 0)) hL.gs rfl (by show (0 : Int) ≤ (232 + (11 * i)) + 0; omega) (by show (232 + (11 * i)) + 0 < ((537 : Nat) : Int); omega) (hC.vR (w := 0) (by show ((232 + (11 * i)) + 0).toNat = 232 + 11 * i.toNat + 0; omega) (by show i.toNat < 8; omega) (by decide)) ?_
    refine w_iret (fun q => by cases q) ?_
    refine w_goto ?_
    refine w_isn ?_
    show wz _ _ _ _ [some (.inr (.inr (some m))), some (.inl i), some (.inl (R i.toNat 0)), none, none] _ _ _ _ _
    refine w_aln rfl ?_
    refine w_iln rfl ?_
    refine w_ic ?_
    refine w_iln rfl ?_
    refine w_neg ⟨by show (-2147483648 : Int) ≤ (R i.toNat 0); omega, by show (R i.toNat 0) < (2147483648 : Int); omega⟩ (by omega) ?_
    refine w_cv (st := []) rfl hL.gm rfl (Nat.le_of_ble_eq_true rfl) (fun kk h => h) ⟨Nat.le_of_ble_eq_true rfl, ?_⟩
    show wz (d) mt_X12_more.2.2.2.2.1 _ mt_X12_more.2.2.2.2.1 [some (.inr (.inr (some m))), some (.inl i), some (.inl 0), some (.inl (-(R i.toNat 0)))] [] _ _ _ _
    refine w_aln rfl ?_
    refine w_gr hL.gm rfl (by decide) rfl (hC.vr hL.m6) ?_
    refine w_sp ?_
    refine w_bp ?_
    refine w_iln rfl ?_
    refine w_mul ⟨by show (-2147483648 : Int) ≤ 11 * i; omega, by show 11 * i < (2147483648 : Int); omega⟩ ?_
    refine w_add ⟨by show (-2147483648 : Int) ≤ 232 + (11 * i); omega, by show 232 + (11 * i) < (2147483648 : Int); omega⟩ ?_
    refine w_iln rfl ?_
    refine w_add ⟨by show (-2147483648 : Int) ≤ (232 + (11 * i)) + 0; omega, by show (232 + (11 * i)) + 0 < (2147483648 : Int); omega⟩ ?_
    refine w_dup2 ?_
    refine w_iald (v := (R i.toNat 0)) hL.gs rfl (by show (0 : Int) ≤ (232 + (11 * i)) + 0; omega) (by show (232 + (11 * i)) + 0 < ((537 : Nat) : Int); omega) (hC.vR (w := 0) (by show ((232 + (11 * i)) + 0).toNat = 232 + 11 * i.toNat + 0; omega) (by show i.toNat < 8; omega) (by decide)) ?_
    refine w_iln rfl ?_
    refine w_add ⟨by show (-2147483648 : Int) ≤ (R i.toNat 0) + (-(R i.toNat 0)); omega, by show (R i.toNat 0) + (-(R i.toNat 0)) < (2147483648 : Int); omega⟩ ?_
    refine w_iast hL.gs rfl (by decide) (by show (0 : Int) ≤ (232 + (11 * i)) + 0; omega) (by show (232 + (11 * i)) + 0 < ((537 : Nat) : Int); omega) ?_
    have hC18 := hC.op i.toNat
    have hC19 := hC18.pr (w := 0) (v := (R i.toNat 0) + (-(R i.toNat 0))) hL (by show ((232 + (11 * i)) + 0).toNat = 232 + 11 * i.toNat + 0; omega) (by show i.toNat < 8; omega) (by decide)
    refine w_ret ?_
    refine w_aln rfl ?_
    refine w_gr hL.gm rfl (by decide) rfl (hC19.vr hL.m6) ?_
    refine w_sp ?_
    refine w_dup2 ?_
    refine w_iald (v := (g 227)) hL.gs rfl (by show (0 : Int) ≤ 227; omega) (by show 227 < ((537 : Nat) : Int); omega) (hC19.vg (k := 227) (by decide) (by decide)) ?_
    refine w_iln rfl ?_
    refine w_add ⟨by show (-2147483648 : Int) ≤ (g 227) + (R i.toNat 0); omega, by show (g 227) + (R i.toNat 0) < (2147483648 : Int); omega⟩ ?_
    refine w_iast hL.gs rfl (by decide) (by show (0 : Int) ≤ 227; omega) (by show 227 < ((537 : Nat) : Int); omega) ?_
    have hC20 := hC19.pg (k := 227) (v := (g 227) + (R i.toNat 0)) hL (by decide) (by decide) (by show (227 : Int).toNat = 227; omega)
    refine w_iln rfl ?_
    refine w_aln rfl ?_
    refine w_iln rfl ?_
    refine w_ic ?_
    refine w_cv (st := [.inl (R i.toNat 0)]) rfl hL.gm rfl (Nat.le_of_ble_eq_true rfl) (fun kk h => h) ⟨Nat.le_of_ble_eq_true rfl, ?_⟩
    show wz (d) mt_X12_toldOf.2.2.2.2.1 _ mt_X12_toldOf.2.2.2.2.1 [some (.inr (.inr (some m))), some (.inl i), some (.inl 2)] [] _ _ _ _
    refine w_aln rfl ?_
    refine w_gr hL.gm rfl (by decide) rfl (hC20.vr hL.m6) ?_
    refine w_ic ?_
    refine w_bp ?_
    refine w_iln rfl ?_
    refine w_mul ⟨by show (-2147483648 : Int) ≤ 9 * i; omega, by show 9 * i < (2147483648 : Int); omega⟩ ?_
    refine w_add ⟨by show (-2147483648 : Int) ≤ 4 + (9 * i); omega, by show 4 + (9 * i) < (2147483648 : Int); omega⟩ ?_
    refine w_iln rfl ?_
    refine w_add ⟨by show (-2147483648 : Int) ≤ (4 + (9 * i)) + 2; omega, by show (4 + (9 * i)) + 2 < (2147483648 : Int); omega⟩ ?_
    refine w_iald (v := (H (6 + 9 * i.toNat))) hL.gs rfl (by show (0 : Int) ≤ (4 + (9 * i)) + 2; omega) (by show (4 + (9 * i)) + 2 < ((537 : Nat) : Int); omega) (hC20.vn hL (by show ((4 + (9 * i)) + 2).toNat = 6 + 9 * i.toNat; omega) (by show 6 + 9 * i.toNat < 221; omega)) ?_
    refine w_iret (fun q => by cases q) ?_
    refine w_cmge (fun c21 => ?_) (fun c21 => ?_)
    · exfalso; omega
    · skip
      refine w_ic ?_
      refine w_goto ?_
      refine w_isn ?_
      show wz _ _ _ _ [some (.inr (.inr (some m))), some (.inl i), some (.inl (R i.toNat 0)), some (.inl 1), none] _ _ _ _ _
      refine w_iln rfl ?_
      refine w_ifeq (fun c22 => ?_) (fun c22 => ?_)
      · exfalso; omega
      · skip
        refine w_aln rfl ?_
        refine w_iln rfl ?_
        refine w_ic ?_
        refine w_ic ?_
        refine w_cv (st := []) rfl hL.gm rfl (Nat.le_of_ble_eq_true rfl) (fun kk h => h) ⟨Nat.le_of_ble_eq_true rfl, ?_⟩
        show wz (d) mt_X12_more.2.2.2.2.1 _ mt_X12_more.2.2.2.2.1 [some (.inr (.inr (some m))), some (.inl i), some (.inl 2), some (.inl 1)] [] _ _ _ _
        refine w_aln rfl ?_
        refine w_gr hL.gm rfl (by decide) rfl (hC20.vr hL.m6) ?_
        refine w_sp ?_
        refine w_bp ?_
        refine w_iln rfl ?_
        refine w_mul ⟨by show (-2147483648 : Int) ≤ 11 * i; omega, by show 11 * i < (2147483648 : Int); omega⟩ ?_
        refine w_add ⟨by show (-2147483648 : Int) ≤ 232 + (11 * i); omega, by show 232 + (11 * i) < (2147483648 : Int); omega⟩ ?_
        refine w_iln rfl ?_
        refine w_add ⟨by show (-2147483648 : Int) ≤ (232 + (11 * i)) + 2; omega, by show (232 + (11 * i)) + 2 < (2147483648 : Int); omega⟩ ?_
        refine w_dup2 ?_
        refine w_iald (v := (R i.toNat 2)) hL.gs rfl (by show (0 : Int) ≤ (232 + (11 * i)) + 2; omega) (by show (232 + (11 * i)) + 2 < ((537 : Nat) : Int); omega) ((hC20.rr (w := 2) (by show ((232 + (11 * i)) + 2).toNat = 232 + 11 * i.toNat + 2; omega) (by show i.toNat < 8; omega) (by decide)).trans ((rv_up_n (by decide)))) ?_
        refine w_iln rfl ?_
        refine w_add ⟨by show (-2147483648 : Int) ≤ (R i.toNat 2) + 1; omega, by show (R i.toNat 2) + 1 < (2147483648 : Int); omega⟩ ?_
        refine w_iast hL.gs rfl (by decide) (by show (0 : Int) ≤ (232 + (11 * i)) + 2; omega) (by show (232 + (11 * i)) + 2 < ((537 : Nat) : Int); omega) ?_
        have hC23 := hC20.pr (w := 2) (v := (R i.toNat 2) + 1) hL (by show ((232 + (11 * i)) + 2).toNat = 232 + 11 * i.toNat + 2; omega) (by show i.toNat < 8; omega) (by decide)
        refine w_ret ?_
        refine w_aln rfl ?_
        refine w_iln rfl ?_
        refine w_bp ?_
        refine w_ic ?_
        refine w_cv (st := []) rfl hL.gm rfl (Nat.le_of_ble_eq_true rfl) (fun kk h => h) ⟨Nat.le_of_ble_eq_true rfl, ?_⟩
        show wz (d) mt_X12_more.2.2.2.2.1 _ mt_X12_more.2.2.2.2.1 [some (.inr (.inr (some m))), some (.inl i), some (.inl 7), some (.inl 1)] [] _ _ _ _
        refine w_aln rfl ?_
        refine w_gr hL.gm rfl (by decide) rfl (hC23.vr hL.m6) ?_
        refine w_sp ?_
        refine w_bp ?_
        refine w_iln rfl ?_
        refine w_mul ⟨by show (-2147483648 : Int) ≤ 11 * i; omega, by show 11 * i < (2147483648 : Int); omega⟩ ?_
        refine w_add ⟨by show (-2147483648 : Int) ≤ 232 + (11 * i); omega, by show 232 + (11 * i) < (2147483648 : Int); omega⟩ ?_
        refine w_iln rfl ?_
        refine w_add ⟨by show (-2147483648 : Int) ≤ (232 + (11 * i)) + 7; omega, by show (232 + (11 * i)) + 7 < (2147483648 : Int); omega⟩ ?_
        refine w_dup2 ?_
        refine w_iald (v := (R i.toNat 7)) hL.gs rfl (by show (0 : Int) ≤ (232 + (11 * i)) + 7; omega) (by show (232 + (11 * i)) + 7 < ((537 : Nat) : Int); omega) ((hC23.rr (w := 7) (by show ((232 + (11 * i)) + 7).toNat = 232 + 11 * i.toNat + 7; omega) (by show i.toNat < 8; omega) (by decide)).trans ((rv_up_n (by decide)).trans ((rv_up_n (by decide))))) ?_
        refine w_iln rfl ?_
        refine w_add ⟨by show (-2147483648 : Int) ≤ (R i.toNat 7) + 1; omega, by show (R i.toNat 7) + 1 < (2147483648 : Int); omega⟩ ?_
        refine w_iast hL.gs rfl (by decide) (by show (0 : Int) ≤ (232 + (11 * i)) + 7; omega) (by show (232 + (11 * i)) + 7 < ((537 : Nat) : Int); omega) ?_
        have hC24 := hC23.pr (w := 7) (v := (R i.toNat 7) + 1) hL (by show ((232 + (11 * i)) + 7).toNat = 232 + 11 * i.toNat + 7; omega) (by show i.toNat < 8; omega) (by decide)
        refine w_ret ?_
        refine w_goto ?_
        refine w_aln rfl ?_
        refine w_iln rfl ?_
        refine w_ic ?_
        refine w_cv (st := []) rfl hL.gm rfl (Nat.le_of_ble_eq_true rfl) (fun kk h => h) ⟨Nat.le_of_ble_eq_true rfl, ?_⟩
        show wz (d) mt_X12_of.2.2.2.2.1 _ mt_X12_of.2.2.2.2.1 [some (.inr (.inr (some m))), some (.inl i), some (.inl 2)] [] _ _ _ _
        refine w_aln rfl ?_
        refine w_gr hL.gm rfl (by decide) rfl (hC24.vr hL.m6) ?_
        refine w_sp ?_
        refine w_bp ?_
        refine w_iln rfl ?_
        refine w_mul ⟨by show (-2147483648 : Int) ≤ 11 * i; omega, by show 11 * i < (2147483648 : Int); omega⟩ ?_
        refine w_add ⟨by show (-2147483648 : Int) ≤ 232 + (11 * i); omega, by show 232 + (11 * i) < (2147483648 : Int); omega⟩ ?_
        refine w_iln rfl ?_
        refine w_add ⟨by show (-2147483648 : Int) ≤ (232 + (11 * i)) + 2; omega, by show (232 + (11 * i)) + 2 < (2147483648 : Int); omega⟩ ?_
        refine w_iald (v := (R i.toNat 2) + 1) hL.gs rfl (by show (0 : Int) ≤ (232 + (11 * i)) + 2; omega) (by show (232 + (11 * i)) + 2 < ((537 : Nat) : Int); omega) ((hC24.rr (w := 2) (by show ((232 + (11 * i)) + 2).toNat = 232 + 11 * i.toNat + 2; omega) (by show i.toNat < 8; omega) (by decide)).trans ((rv_up_n (by decide)).trans (rv_up_s))) ?_
        refine w_iret (fun q => by cases q) ?_
        refine w_aln rfl ?_
        refine w_gr hL.gm rfl (by decide) rfl (hC24.vr hL.m6) ?_
        refine w_ic ?_
        refine w_iald (v := (H 3)) hL.gs rfl (by show (0 : Int) ≤ 3; omega) (by show 3 < ((537 : Nat) : Int); omega) (hC24.vn hL (by show (3 : Int).toNat = 3; omega) (by decide)) ?_
        refine w_cmlt (fun c25 => ?_) (fun c25 => ?_)
        · skip
          refine w_aln rfl ?_
          refine w_iln rfl ?_
          refine w_bp ?_
          refine w_cv (st := []) rfl hL.gm rfl (Nat.le_of_ble_eq_true rfl) (fun kk h => h) ⟨Nat.le_of_ble_eq_true rfl, ?_⟩
          show wz (d) mt_X12_toldOf.2.2.2.2.1 _ mt_X12_toldOf.2.2.2.2.1 [some (.inr (.inr (some m))), some (.inl i), some (.inl 7)] [] _ _ _ _
          refine w_aln rfl ?_
          refine w_gr hL.gm rfl (by decide) rfl (hC24.vr hL.m6) ?_
          refine w_ic ?_
          refine w_bp ?_
          refine w_iln rfl ?_
          refine w_mul ⟨by show (-2147483648 : Int) ≤ 9 * i; omega, by show 9 * i < (2147483648 : Int); omega⟩ ?_
          refine w_add ⟨by show (-2147483648 : Int) ≤ 4 + (9 * i); omega, by show 4 + (9 * i) < (2147483648 : Int); omega⟩ ?_
          refine w_iln rfl ?_
          refine w_add ⟨by show (-2147483648 : Int) ≤ (4 + (9 * i)) + 7; omega, by show (4 + (9 * i)) + 7 < (2147483648 : Int); omega⟩ ?_
          refine w_iald (v := (H (11 + 9 * i.toNat))) hL.gs rfl (by show (0 : Int) ≤ (4 + (9 * i)) + 7; omega) (by show (4 + (9 * i)) + 7 < ((537 : Nat) : Int); omega) (hC24.vn hL (by show ((4 + (9 * i)) + 7).toNat = 11 + 9 * i.toNat; omega) (by show 11 + 9 * i.toNat < 221; omega)) ?_
          refine w_iret (fun q => by cases q) ?_
          refine w_is ?_
          show wz _ _ _ _ [some (.inr (.inr (some m))), some (.inl i), some (.inl (R i.toNat 0)), some (.inl 1), some (.inl (H (11 + 9 * i.toNat)))] _ _ _ _ _
          refine w_il rfl ?_
          refine w_ifle (fun c26 => ?_) (fun c26 => ?_)
          · skip
            refine w_aln rfl ?_
            refine w_iln rfl ?_
            refine w_bp ?_
            refine w_aln rfl ?_
            refine w_iln rfl ?_
            refine w_bp ?_
            refine w_cv (st := [.inl 10, .inl i, .inr (.inr (some m))]) rfl hL.gm rfl (Nat.le_of_ble_eq_true rfl) (fun kk h => h) ⟨Nat.le_of_ble_eq_true rfl, ?_⟩
            show wz (d) mt_X12_of.2.2.2.2.1 _ mt_X12_of.2.2.2.2.1 [some (.inr (.inr (some m))), some (.inl i), some (.inl 10)] [] _ _ _ _
            refine w_aln rfl ?_
            refine w_gr hL.gm rfl (by decide) rfl (hC24.vr hL.m6) ?_
            refine w_sp ?_
            refine w_bp ?_
            refine w_iln rfl ?_
            refine w_mul ⟨by show (-2147483648 : Int) ≤ 11 * i; omega, by show 11 * i < (2147483648 : Int); omega⟩ ?_
            refine w_add ⟨by show (-2147483648 : Int) ≤ 232 + (11 * i); omega, by show 232 + (11 * i) < (2147483648 : Int); omega⟩ ?_
            refine w_iln rfl ?_
            refine w_add ⟨by show (-2147483648 : Int) ≤ (232 + (11 * i)) + 10; omega, by show (232 + (11 * i)) + 10 < (2147483648 : Int); omega⟩ ?_
            refine w_iald (v := (R i.toNat 10)) hL.gs rfl (by show (0 : Int) ≤ (232 + (11 * i)) + 10; omega) (by show (232 + (11 * i)) + 10 < ((537 : Nat) : Int); omega) ((hC24.rr (w := 10) (by show ((232 + (11 * i)) + 10).toNat = 232 + 11 * i.toNat + 10; omega) (by show i.toNat < 8; omega) (by decide)).trans ((rv_up_n (by decide)).trans ((rv_up_n (by decide)).trans ((rv_up_n (by decide)))))) ?_
            refine w_iret (fun q => by cases q) ?_
            refine w_neg ⟨by show (-2147483648 : Int) ≤ (R i.toNat 10); omega, by show (R i.toNat 10) < (2147483648 : Int); omega⟩ (by omega) ?_
            refine w_cv (st := []) rfl hL.gm rfl (Nat.le_of_ble_eq_true rfl) (fun kk h => h) ⟨Nat.le_of_ble_eq_true rfl, ?_⟩
            show wz (d) mt_X12_more.2.2.2.2.1 _ mt_X12_more.2.2.2.2.1 [some (.inr (.inr (some m))), some (.inl i), some (.inl 10), some (.inl (-(R i.toNat 10)))] [] _ _ _ _
            refine w_aln rfl ?_
            refine w_gr hL.gm rfl (by decide) rfl (hC24.vr hL.m6) ?_
            refine w_sp ?_
            refine w_bp ?_
            refine w_iln rfl ?_
            refine w_mul ⟨by show (-2147483648 : Int) ≤ 11 * i; omega, by show 11 * i < (2147483648 : Int); omega⟩ ?_
            refine w_add ⟨by show (-2147483648 : Int) ≤ 232 + (11 * i); omega, by show 232 + (11 * i) < (2147483648 : Int); omega⟩ ?_
            refine w_iln rfl ?_
            refine w_add ⟨by show (-2147483648 : Int) ≤ (232 + (11 * i)) + 10; omega, by show (232 + (11 * i)) + 10 < (2147483648 : Int); omega⟩ ?_
            refine w_dup2 ?_
            refine w_iald (v := (R i.toNat 10)) hL.gs rfl (by show (0 : Int) ≤ (232 + (11 * i)) + 10; omega) (by show (232 + (11 * i)) + 10 < ((537 : Nat) : Int); omega) ((hC24.rr (w := 10) (by show ((232 + (11 * i)) + 10).toNat = 232 + 11 * i.toNat + 10; omega) (by show i.toNat < 8; omega) (by decide)).trans ((rv_up_n (by decide)).trans ((rv_up_n (by decide)).trans ((rv_up_n (by decide)))))) ?_
            refine w_iln rfl ?_
            refine w_add ⟨by show (-2147483648 : Int) ≤ (R i.toNat 10) + (-(R i.toNat 10)); omega, by show (R i.toNat 10) + (-(R i.toNat 10)) < (2147483648 : Int); omega⟩ ?_
            refine w_iast hL.gs rfl (by decide) (by show (0 : Int) ≤ (232 + (11 * i)) + 10; omega) (by show (232 + (11 * i)) + 10 < ((537 : Nat) : Int); omega) ?_
            have hC27 := hC24.pr (w := 10) (v := (R i.toNat 10) + (-(R i.toNat 10))) hL (by show ((232 + (11 * i)) + 10).toNat = 232 + 11 * i.toNat + 10; omega) (by show i.toNat < 8; omega) (by decide)
            refine w_ret ?_
            have eu : ye_u H i.toNat (R i.toNat) = (R i.toNat 0) := by unfold ye_u; split <;> omega
            have ed : ye_d H i.toNat (R i.toNat) = (R i.toNat 2) + 1 := by unfold ye_d; rw [eu]; split <;> omega
            have es : ye_sp H i.toNat (R i.toNat) = 0 := by unfold ye_sp; rw [ed, eu]; split <;> omega
            have ef : ye_fl H i.toNat (R i.toNat) = 0 := by unfold ye_fl; rw [es, eu]; split <;> omega
            have eg : ye_gr H i.toNat (R i.toNat) = (R i.toNat 10) + (-(R i.toNat 10)) := by unfold ye_gr; rw [es, eu]; split <;> omega
            obtain ⟨w0, w1, w2, w3, w4, w5, w6, w7, w8, w9, w10⟩ := ye_dkw (H := H) (t := i.toNat) (r := R i.toNat)
            refine w_ret (h _ (hC27.cg (ye_10 rfl rfl rfl rfl rfl ?_ rfl ?_ rfl rfl) (ye_ru_c (ye_11 ?_ ?_ ?_ ?_ ?_ ?_ ?_ ?_ ?_ ?_ ?_))))
            · refine (rv_up_s).trans (Eq.trans (b := g 227 + (ye_u H i.toNat (R i.toNat) + ye_fl H i.toNat (R i.toNat))) ?_ rfl)
              first | (rw [eu, ef]; done) | (rw [eu, ef]; omega)
            · refine ((rv_up_n (by decide))).trans (Eq.trans (b := g 229 + ye_sp H i.toNat (R i.toNat)) ?_ rfl)
              first | (rw [es]; done) | (rw [es]; omega)
            · refine ((rv_up_n (by decide)).trans ((rv_up_n (by decide)).trans ((rv_up_n (by decide)).trans (rv_up_s)))).trans (Eq.trans ?_ w0.symm)
              first | (rw [eu, es, ef]; done) | (rw [eu, es, ef]; (try split) <;> omega)
            · exact ((rv_up_n (by decide)).trans ((rv_up_n (by decide)).trans ((rv_up_n (by decide)).trans ((rv_up_n (by decide)))))).trans w1.symm
            · refine ((rv_up_n (by decide)).trans ((rv_up_n (by decide)).trans (rv_up_s))).trans (Eq.trans ?_ w2.symm)
              first | (rw [ed]; done) | (rw [ed]; (try split) <;> omega)
            · refine ((rv_up_n (by decide)).trans ((rv_up_n (by decide)).trans ((rv_up_n (by decide)).trans ((rv_up_n (by decide)))))).trans (Eq.trans ?_ w3.symm)
              first | (rw [ed]; done) | (rw [ed]; (try split) <;> omega)
            · exact ((rv_up_n (by decide)).trans ((rv_up_n (by decide)).trans ((rv_up_n (by decide)).trans ((rv_up_n (by decide)))))).trans w4.symm
            · exact ((rv_up_n (by decide)).trans ((rv_up_n (by decide)).trans ((rv_up_n (by decide)).trans ((rv_up_n (by decide)))))).trans w5.symm
            · exact ((rv_up_n (by decide)).trans ((rv_up_n (by decide)).trans ((rv_up_n (by decide)).trans ((rv_up_n (by decide)))))).trans w6.symm
            · refine ((rv_up_n (by decide)).trans (rv_up_s)).trans (Eq.trans ?_ w7.symm)
              first | (rw [eu]; done) | (rw [eu]; (try split) <;> omega)
            · refine ((rv_up_n (by decide)).trans ((rv_up_n (by decide)).trans ((rv_up_n (by decide)).trans ((rv_up_n (by decide)))))).trans (Eq.trans ?_ w8.symm)
              first | (rw [eg]; done) | (rw [eg]; (try split) <;> omega)
            · exact ((rv_up_n (by decide)).trans ((rv_up_n (by decide)).trans ((rv_up_n (by decide)).trans ((rv_up_n (by decide)))))).trans w9.symm
            · refine (rv_up_s).trans (Eq.trans ?_ w10.symm)
              first | (rw [eg]; done) | (rw [eg]; (try split) <;> omega)
            
          · skip
            refine w_aln rfl ?_
            refine w_iln rfl ?_
            refine w_ic ?_
            refine w_cv (st := []) rfl hL.gm rfl (Nat.le_of_ble_eq_true rfl) (fun kk h => h) ⟨Nat.le_of_ble_eq_true rfl, ?_⟩
            show wz (d) mt_X12_of.2.2.2.2.1 _ mt_X12_of.2.2.2.2.1 [some (.inr (.inr (some m))), some (.inl i), some (.inl 0)] [] _ _ _ _
            refine w_aln rfl ?_
            refine w_gr hL.gm rfl (by decide) rfl (hC24.vr hL.m6) ?_
            refine w_sp ?_
            refine w_bp ?_
            refine w_iln rfl ?_
            refine w_mul ⟨by show (-2147483648 : Int) ≤ 11 * i; omega, by show 11 * i < (2147483648 : Int); omega⟩ ?_
            refine w_add ⟨by show (-2147483648 : Int) ≤ 232 + (11 * i); omega, by show 232 + (11 * i) < (2147483648 : Int); omega⟩ ?_
            refine w_iln rfl ?_
            refine w_add ⟨by show (-2147483648 : Int) ≤ (232 + (11 * i)) + 0; omega, by show (232 + (11 * i)) + 0 < (2147483648 : Int); omega⟩ ?_
            refine w_iald (v := (R i.toNat 0) + (-(R i.toNat 0))) hL.gs rfl (by show (0 : Int) ≤ (232 + (11 * i)) + 0; omega) (by show (232 + (11 * i)) + 0 < ((537 : Nat) : Int); omega) ((hC24.rr (w := 0) (by show ((232 + (11 * i)) + 0).toNat = 232 + 11 * i.toNat + 0; omega) (by show i.toNat < 8; omega) (by decide)).trans ((rv_up_n (by decide)).trans ((rv_up_n (by decide)).trans (rv_up_s)))) ?_
            refine w_iret (fun q => by cases q) ?_
            refine w_il rfl ?_
            refine w_cmlt (fun c28 => ?_) (fun c28 => ?_)
            · skip
              refine w_aln rfl ?_
              refine w_iln rfl ?_
              refine w_bp ?_
              refine w_aln rfl ?_
              refine w_iln rfl ?_
              refine w_bp ?_
              refine w_cv (st := [.inl 10, .inl i, .inr (.inr (some m))]) rfl hL.gm rfl (Nat.le_of_ble_eq_true rfl) (fun kk h => h) ⟨Nat.le_of_ble_eq_true rfl, ?_⟩
              show wz (d) mt_X12_of.2.2.2.2.1 _ mt_X12_of.2.2.2.2.1 [some (.inr (.inr (some m))), some (.inl i), some (.inl 10)] [] _ _ _ _
              refine w_aln rfl ?_
              refine w_gr hL.gm rfl (by decide) rfl (hC24.vr hL.m6) ?_
              refine w_sp ?_
              refine w_bp ?_
              refine w_iln rfl ?_
              refine w_mul ⟨by show (-2147483648 : Int) ≤ 11 * i; omega, by show 11 * i < (2147483648 : Int); omega⟩ ?_
              refine w_add ⟨by show (-2147483648 : Int) ≤ 232 + (11 * i); omega, by show 232 + (11 * i) < (2147483648 : Int); omega⟩ ?_
              refine w_iln rfl ?_
              refine w_add ⟨by show (-2147483648 : Int) ≤ (232 + (11 * i)) + 10; omega, by show (232 + (11 * i)) + 10 < (2147483648 : Int); omega⟩ ?_
              refine w_iald (v := (R i.toNat 10)) hL.gs rfl (by show (0 : Int) ≤ (232 + (11 * i)) + 10; omega) (by show (232 + (11 * i)) + 10 < ((537 : Nat) : Int); omega) ((hC24.rr (w := 10) (by show ((232 + (11 * i)) + 10).toNat = 232 + 11 * i.toNat + 10; omega) (by show i.toNat < 8; omega) (by decide)).trans ((rv_up_n (by decide)).trans ((rv_up_n (by decide)).trans ((rv_up_n (by decide)))))) ?_
              refine w_iret (fun q => by cases q) ?_
              refine w_neg ⟨by show (-2147483648 : Int) ≤ (R i.toNat 10); omega, by show (R i.toNat 10) < (2147483648 : Int); omega⟩ (by omega) ?_
              refine w_cv (st := []) rfl hL.gm rfl (Nat.le_of_ble_eq_true rfl) (fun kk h => h) ⟨Nat.le_of_ble_eq_true rfl, ?_⟩
              show wz (d) mt_X12_more.2.2.2.2.1 _ mt_X12_more.2.2.2.2.1 [some (.inr (.inr (some m))), some (.inl i), some (.inl 10), some (.inl (-(R i.toNat 10)))] [] _ _ _ _
              refine w_aln rfl ?_
              refine w_gr hL.gm rfl (by decide) rfl (hC24.vr hL.m6) ?_
              refine w_sp ?_
              refine w_bp ?_
              refine w_iln rfl ?_
              refine w_mul ⟨by show (-2147483648 : Int) ≤ 11 * i; omega, by show 11 * i < (2147483648 : Int); omega⟩ ?_
              refine w_add ⟨by show (-2147483648 : Int) ≤ 232 + (11 * i); omega, by show 232 + (11 * i) < (2147483648 : Int); omega⟩ ?_
              refine w_iln rfl ?_
              refine w_add ⟨by show (-2147483648 : Int) ≤ (232 + (11 * i)) + 10; omega, by show (232 + (11 * i)) + 10 < (2147483648 : Int); omega⟩ ?_
              refine w_dup2 ?_
              refine w_iald (v := (R i.toNat 10)) hL.gs rfl (by show (0 : Int) ≤ (232 + (11 * i)) + 10; omega) (by show (232 + (11 * i)) + 10 < ((537 : Nat) : Int); omega) ((hC24.rr (w := 10) (by show ((232 + (11 * i)) + 10).toNat = 232 + 11 * i.toNat + 10; omega) (by show i.toNat < 8; omega) (by decide)).trans ((rv_up_n (by decide)).trans ((rv_up_n (by decide)).trans ((rv_up_n (by decide)))))) ?_
              refine w_iln rfl ?_
              refine w_add ⟨by show (-2147483648 : Int) ≤ (R i.toNat 10) + (-(R i.toNat 10)); omega, by show (R i.toNat 10) + (-(R i.toNat 10)) < (2147483648 : Int); omega⟩ ?_
              refine w_iast hL.gs rfl (by decide) (by show (0 : Int) ≤ (232 + (11 * i)) + 10; omega) (by show (232 + (11 * i)) + 10 < ((537 : Nat) : Int); omega) ?_
              have hC29 := hC24.pr (w := 10) (v := (R i.toNat 10) + (-(R i.toNat 10))) hL (by show ((232 + (11 * i)) + 10).toNat = 232 + 11 * i.toNat + 10; omega) (by show i.toNat < 8; omega) (by decide)
              refine w_ret ?_
              have eu : ye_u H i.toNat (R i.toNat) = (R i.toNat 0) := by unfold ye_u; split <;> omega
              have ed : ye_d H i.toNat (R i.toNat) = (R i.toNat 2) + 1 := by unfold ye_d; rw [eu]; split <;> omega
              have es : ye_sp H i.toNat (R i.toNat) = 0 := by unfold ye_sp; rw [ed, eu]; split <;> omega
              have ef : ye_fl H i.toNat (R i.toNat) = 0 := by unfold ye_fl; rw [es, eu]; split <;> omega
              have eg : ye_gr H i.toNat (R i.toNat) = (R i.toNat 10) + (-(R i.toNat 10)) := by unfold ye_gr; rw [es, eu]; split <;> omega
              obtain ⟨w0, w1, w2, w3, w4, w5, w6, w7, w8, w9, w10⟩ := ye_dkw (H := H) (t := i.toNat) (r := R i.toNat)
              refine w_ret (h _ (hC29.cg (ye_10 rfl rfl rfl rfl rfl ?_ rfl ?_ rfl rfl) (ye_ru_c (ye_11 ?_ ?_ ?_ ?_ ?_ ?_ ?_ ?_ ?_ ?_ ?_))))
              · refine (rv_up_s).trans (Eq.trans (b := g 227 + (ye_u H i.toNat (R i.toNat) + ye_fl H i.toNat (R i.toNat))) ?_ rfl)
                first | (rw [eu, ef]; done) | (rw [eu, ef]; omega)
              · refine ((rv_up_n (by decide))).trans (Eq.trans (b := g 229 + ye_sp H i.toNat (R i.toNat)) ?_ rfl)
                first | (rw [es]; done) | (rw [es]; omega)
              · refine ((rv_up_n (by decide)).trans ((rv_up_n (by decide)).trans ((rv_up_n (by decide)).trans (rv_up_s)))).trans (Eq.trans ?_ w0.symm)
                first | (rw [eu, es, ef]; done) | (rw [eu, es, ef]; (try split) <;> omega)
              · exact ((rv_up_n (by decide)).trans ((rv_up_n (by decide)).trans ((rv_up_n (by decide)).trans ((rv_up_n (by decide)))))).trans w1.symm
              · refine ((rv_up_n (by decide)).trans ((rv_up_n (by decide)).trans (rv_up_s))).trans (Eq.trans ?_ w2.symm)
                first | (rw [ed]; done) | (rw [ed]; (try split) <;> omega)
              · refine ((rv_up_n (by decide)).trans ((rv_up_n (by decide)).trans ((rv_up_n (by decide)).trans ((rv_up_n (by decide)))))).trans (Eq.trans ?_ w3.symm)
                first | (rw [ed]; done) | (rw [ed]; (try split) <;> omega)
              · exact ((rv_up_n (by decide)).trans ((rv_up_n (by decide)).trans ((rv_up_n (by decide)).trans ((rv_up_n (by decide)))))).trans w4.symm
              · exact ((rv_up_n (by decide)).trans ((rv_up_n (by decide)).trans ((rv_up_n (by decide)).trans ((rv_up_n (by decide)))))).trans w5.symm
              · exact ((rv_up_n (by decide)).trans ((rv_up_n (by decide)).trans ((rv_up_n (by decide)).trans ((rv_up_n (by decide)))))).trans w6.symm
              · refine ((rv_up_n (by decide)).trans (rv_up_s)).trans (Eq.trans ?_ w7.symm)
                first | (rw [eu]; done) | (rw [eu]; (try split) <;> omega)
              · refine ((rv_up_n (by decide)).trans ((rv_up_n (by decide)).trans ((rv_up_n (by decide)).trans ((rv_up_n (by decide)))))).trans (Eq.trans ?_ w8.symm)
                first | (rw [eg]; done) | (rw [eg]; (try split) <;> omega)
              · exact ((rv_up_n (by decide)).trans ((rv_up_n (by decide)).trans ((rv_up_n (by decide)).trans ((rv_up_n (by decide)))))).trans w9.symm
              · refine (rv_up_s).trans (Eq.trans ?_ w10.symm)
                first | (rw [eg]; done) | (rw [eg]; (try split) <;> omega)
              
            · exfalso; omega
        · skip
          refine w_aln rfl ?_
          refine w_iln rfl ?_
          refine w_ic ?_
          refine w_cv (st := []) rfl hL.gm rfl (Nat.le_of_ble_eq_true rfl) (fun kk h => h) ⟨Nat.le_of_ble_eq_true rfl, ?_⟩
          show wz (d) mt_X12_of.2.2.2.2.1 _ mt_X12_of.2.2.2.2.1 [some (.inr (.inr (some m))), some (.inl i), some (.inl 3)] [] _ _ _ _
          refine w_aln rfl ?_
          refine w_gr hL.gm rfl (by decide) rfl (hC24.vr hL.m6) ?_
          refine w_sp ?_
          refine w_bp ?_
          refine w_iln rfl ?_
          refine w_mul ⟨by show (-2147483648 : Int) ≤ 11 * i; omega, by show 11 * i < (2147483648 : Int); omega⟩ ?_
          refine w_add ⟨by show (-2147483648 : Int) ≤ 232 + (11 * i); omega, by show 232 + (11 * i) < (2147483648 : Int); omega⟩ ?_
          refine w_iln rfl ?_
          refine w_add ⟨by show (-2147483648 : Int) ≤ (232 + (11 * i)) + 3; omega, by show (232 + (11 * i)) + 3 < (2147483648 : Int); omega⟩ ?_
          refine w_iald (v := (R i.toNat 3)) hL.gs rfl (by show (0 : Int) ≤ (232 + (11 * i)) + 3; omega) (by show (232 + (11 * i)) + 3 < ((537 : Nat) : Int); omega) ((hC24.rr (w := 3) (by show ((232 + (11 * i)) + 3).toNat = 232 + 11 * i.toNat + 3; omega) (by show i.toNat < 8; omega) (by decide)).trans ((rv_up_n (by decide)).trans ((rv_up_n (by decide)).trans ((rv_up_n (by decide)))))) ?_
          refine w_iret (fun q => by cases q) ?_
          refine w_ifne (fun c30 => ?_) (fun c30 => ?_)
          · skip
            refine w_aln rfl ?_
            refine w_iln rfl ?_
            refine w_bp ?_
            refine w_cv (st := []) rfl hL.gm rfl (Nat.le_of_ble_eq_true rfl) (fun kk h => h) ⟨Nat.le_of_ble_eq_true rfl, ?_⟩
            show wz (d) mt_X12_toldOf.2.2.2.2.1 _ mt_X12_toldOf.2.2.2.2.1 [some (.inr (.inr (some m))), some (.inl i), some (.inl 7)] [] _ _ _ _
            refine w_aln rfl ?_
            refine w_gr hL.gm rfl (by decide) rfl (hC24.vr hL.m6) ?_
            refine w_ic ?_
            refine w_bp ?_
            refine w_iln rfl ?_
            refine w_mul ⟨by show (-2147483648 : Int) ≤ 9 * i; omega, by show 9 * i < (2147483648 : Int); omega⟩ ?_
            refine w_add ⟨by show (-2147483648 : Int) ≤ 4 + (9 * i); omega, by show 4 + (9 * i) < (2147483648 : Int); omega⟩ ?_
            refine w_iln rfl ?_
            refine w_add ⟨by show (-2147483648 : Int) ≤ (4 + (9 * i)) + 7; omega, by show (4 + (9 * i)) + 7 < (2147483648 : Int); omega⟩ ?_
            refine w_iald (v := (H (11 + 9 * i.toNat))) hL.gs rfl (by show (0 : Int) ≤ (4 + (9 * i)) + 7; omega) (by show (4 + (9 * i)) + 7 < ((537 : Nat) : Int); omega) (hC24.vn hL (by show ((4 + (9 * i)) + 7).toNat = 11 + 9 * i.toNat; omega) (by show 11 + 9 * i.toNat < 221; omega)) ?_
            refine w_iret (fun q => by cases q) ?_
            refine w_is ?_
            show wz _ _ _ _ [some (.inr (.inr (some m))), some (.inl i), some (.inl (R i.toNat 0)), some (.inl 1), some (.inl (H (11 + 9 * i.toNat)))] _ _ _ _ _
            refine w_il rfl ?_
            refine w_ifle (fun c31 => ?_) (fun c31 => ?_)
            · skip
              refine w_aln rfl ?_
              refine w_iln rfl ?_
              refine w_bp ?_
              refine w_aln rfl ?_
              refine w_iln rfl ?_
              refine w_bp ?_
              refine w_cv (st := [.inl 10, .inl i, .inr (.inr (some m))]) rfl hL.gm rfl (Nat.le_of_ble_eq_true rfl) (fun kk h => h) ⟨Nat.le_of_ble_eq_true rfl, ?_⟩
              show wz (d) mt_X12_of.2.2.2.2.1 _ mt_X12_of.2.2.2.2.1 [some (.inr (.inr (some m))), some (.inl i), some (.inl 10)] [] _ _ _ _
              refine w_aln rfl ?_
              refine w_gr hL.gm rfl (by decide) rfl (hC24.vr hL.m6) ?_
              refine w_sp ?_
              refine w_bp ?_
              refine w_iln rfl ?_
              refine w_mul ⟨by show (-2147483648 : Int) ≤ 11 * i; omega, by show 11 * i < (2147483648 : Int); omega⟩ ?_
              refine w_add ⟨by show (-2147483648 : Int) ≤ 232 + (11 * i); omega, by show 232 + (11 * i) < (2147483648 : Int); omega⟩ ?_
              refine w_iln rfl ?_
              refine w_add ⟨by show (-2147483648 : Int) ≤ (232 + (11 * i)) + 10; omega, by show (232 + (11 * i)) + 10 < (2147483648 : Int); omega⟩ ?_
              refine w_iald (v := (R i.toNat 10)) hL.gs rfl (by show (0 : Int) ≤ (232 + (11 * i)) + 10; omega) (by show (232 + (11 * i)) + 10 < ((537 : Nat) : Int); omega) ((hC24.rr (w := 10) (by show ((232 + (11 * i)) + 10).toNat = 232 + 11 * i.toNat + 10; omega) (by show i.toNat < 8; omega) (by decide)).trans ((rv_up_n (by decide)).trans ((rv_up_n (by decide)).trans ((rv_up_n (by decide)))))) ?_
              refine w_iret (fun q => by cases q) ?_
              refine w_neg ⟨by show (-2147483648 : Int) ≤ (R i.toNat 10); omega, by show (R i.toNat 10) < (2147483648 : Int); omega⟩ (by omega) ?_
              refine w_cv (st := []) rfl hL.gm rfl (Nat.le_of_ble_eq_true rfl) (fun kk h => h) ⟨Nat.le_of_ble_eq_true rfl, ?_⟩
              show wz (d) mt_X12_more.2.2.2.2.1 _ mt_X12_more.2.2.2.2.1 [some (.inr (.inr (some m))), some (.inl i), some (.inl 10), some (.inl (-(R i.toNat 10)))] [] _ _ _ _
              refine w_aln rfl ?_
              refine w_gr hL.gm rfl (by decide) rfl (hC24.vr hL.m6) ?_
              refine w_sp ?_
              refine w_bp ?_
              refine w_iln rfl ?_
              refine w_mul ⟨by show (-2147483648 : Int) ≤ 11 * i; omega, by show 11 * i < (2147483648 : Int); omega⟩ ?_
              refine w_add ⟨by show (-2147483648 : Int) ≤ 232 + (11 * i); omega, by show 232 + (11 * i) < (2147483648 : Int); omega⟩ ?_
              refine w_iln rfl ?_
              refine w_add ⟨by show (-2147483648 : Int) ≤ (232 + (11 * i)) + 10; omega, by show (232 + (11 * i)) + 10 < (2147483648 : Int); omega⟩ ?_
              refine w_dup2 ?_
              refine w_iald (v := (R i.toNat 10)) hL.gs rfl (by show (0 : Int) ≤ (232 + (11 * i)) + 10; omega) (by show (232 + (11 * i)) + 10 < ((537 : Nat) : Int); omega) ((hC24.rr (w := 10) (by show ((232 + (11 * i)) + 10).toNat = 232 + 11 * i.toNat + 10; omega) (by show i.toNat < 8; omega) (by decide)).trans ((rv_up_n (by decide)).trans ((rv_up_n (by decide)).trans ((rv_up_n (by decide)))))) ?_
              refine w_iln rfl ?_
              refine w_add ⟨by show (-2147483648 : Int) ≤ (R i.toNat 10) + (-(R i.toNat 10)); omega, by show (R i.toNat 10) + (-(R i.toNat 10)) < (2147483648 : Int); omega⟩ ?_
              refine w_iast hL.gs rfl (by decide) (by show (0 : Int) ≤ (232 + (11 * i)) + 10; omega) (by show (232 + (11 * i)) + 10 < ((537 : Nat) : Int); omega) ?_
              have hC32 := hC24.pr (w := 10) (v := (R i.toNat 10) + (-(R i.toNat 10))) hL (by show ((232 + (11 * i)) + 10).toNat = 232 + 11 * i.toNat + 10; omega) (by show i.toNat < 8; omega) (by decide)
              refine w_ret ?_
              have eu : ye_u H i.toNat (R i.toNat) = (R i.toNat 0) := by unfold ye_u; split <;> omega
              have ed : ye_d H i.toNat (R i.toNat) = (R i.toNat 2) + 1 := by unfold ye_d; rw [eu]; split <;> omega
              have es : ye_sp H i.toNat (R i.toNat) = 0 := by unfold ye_sp; rw [ed, eu]; split <;> omega
              have ef : ye_fl H i.toNat (R i.toNat) = 0 := by unfold ye_fl; rw [es, eu]; split <;> omega
              have eg : ye_gr H i.toNat (R i.toNat) = (R i.toNat 10) + (-(R i.toNat 10)) := by unfold ye_gr; rw [es, eu]; split <;> omega
              obtain ⟨w0, w1, w2, w3, w4, w5, w6, w7, w8, w9, w10⟩ := ye_dkw (H := H) (t := i.toNat) (r := R i.toNat)
              refine w_ret (h _ (hC32.cg (ye_10 rfl rfl rfl rfl rfl ?_ rfl ?_ rfl rfl) (ye_ru_c (ye_11 ?_ ?_ ?_ ?_ ?_ ?_ ?_ ?_ ?_ ?_ ?_))))
              · refine (rv_up_s).trans (Eq.trans (b := g 227 + (ye_u H i.toNat (R i.toNat) + ye_fl H i.toNat (R i.toNat))) ?_ rfl)
                first | (rw [eu, ef]; done) | (rw [eu, ef]; omega)
              · refine ((rv_up_n (by decide))).trans (Eq.trans (b := g 229 + ye_sp H i.toNat (R i.toNat)) ?_ rfl)
                first | (rw [es]; done) | (rw [es]; omega)
              · refine ((rv_up_n (by decide)).trans ((rv_up_n (by decide)).trans ((rv_up_n (by decide)).trans (rv_up_s)))).trans (Eq.trans ?_ w0.symm)
                first | (rw [eu, es, ef]; done) | (rw [eu, es, ef]; (try split) <;> omega)
              · exact ((rv_up_n (by decide)).trans ((rv_up_n (by decide)).trans ((rv_up_n (by decide)).trans ((rv_up_n (by decide)))))).trans w1.symm
              · refine ((rv_up_n (by decide)).trans ((rv_up_n (by decide)).trans (rv_up_s))).trans (Eq.trans ?_ w2.symm)
                first | (rw [ed]; done) | (rw [ed]; (try split) <;> omega)
              · refine ((rv_up_n (by decide)).trans ((rv_up_n (by decide)).trans ((rv_up_n (by decide)).trans ((rv_up_n (by decide)))))).trans (Eq.trans ?_ w3.symm)
                first | (rw [ed]; done) | (rw [ed]; (try split) <;> omega)
              · exact ((rv_up_n (by decide)).trans ((rv_up_n (by decide)).trans ((rv_up_n (by decide)).trans ((rv_up_n (by decide)))))).trans w4.symm
              · exact ((rv_up_n (by decide)).trans ((rv_up_n (by decide)).trans ((rv_up_n (by decide)).trans ((rv_up_n (by decide)))))).trans w5.symm
              · exact ((rv_up_n (by decide)).trans ((rv_up_n (by decide)).trans ((rv_up_n (by decide)).trans ((rv_up_n (by decide)))))).trans w6.symm
              · refine ((rv_up_n (by decide)).trans (rv_up_s)).trans (Eq.trans ?_ w7.symm)
                first | (rw [eu]; done) | (rw [eu]; (try split) <;> omega)
              · refine ((rv_up_n (by decide)).trans ((rv_up_n (by decide)).trans ((rv_up_n (by decide)).trans ((rv_up_n (by decide)))))).trans (Eq.trans ?_ w8.symm)
                first | (rw [eg]; done) | (rw [eg]; (try split) <;> omega)
              · exact ((rv_up_n (by decide)).trans ((rv_up_n (by decide)).trans ((rv_up_n (by decide)).trans ((rv_up_n (by decide)))))).trans w9.symm
              · refine (rv_up_s).trans (Eq.trans ?_ w10.symm)
                first | (rw [eg]; done) | (rw [eg]; (try split) <;> omega)
              
            · skip
              refine w_aln rfl ?_
              refine w_iln rfl ?_
              refine w_ic ?_
              refine w_cv (st := []) rfl hL.gm rfl (Nat.le_of_ble_eq_true rfl) (fun kk h => h) ⟨Nat.le_of_ble_eq_true rfl, ?_⟩
              show wz (d) mt_X12_of.2.2.2.2.1 _ mt_X12_of.2.2.2.2.1 [some (.inr (.inr (some m))), some (.inl i), some (.inl 0)] [] _ _ _ _
              refine w_aln rfl ?_
              refine w_gr hL.gm rfl (by decide) rfl (hC24.vr hL.m6) ?_
              refine w_sp ?_
              refine w_bp ?_
              refine w_iln rfl ?_
              refine w_mul ⟨by show (-2147483648 : Int) ≤ 11 * i; omega, by show 11 * i < (2147483648 : Int); omega⟩ ?_
              refine w_add ⟨by show (-2147483648 : Int) ≤ 232 + (11 * i); omega, by show 232 + (11 * i) < (2147483648 : Int); omega⟩ ?_
              refine w_iln rfl ?_
              refine w_add ⟨by show (-2147483648 : Int) ≤ (232 + (11 * i)) + 0; omega, by show (232 + (11 * i)) + 0 < (2147483648 : Int); omega⟩ ?_
              refine w_iald (v := (R i.toNat 0) + (-(R i.toNat 0))) hL.gs rfl (by show (0 : Int) ≤ (232 + (11 * i)) + 0; omega) (by show (232 + (11 * i)) + 0 < ((537 : Nat) : Int); omega) ((hC24.rr (w := 0) (by show ((232 + (11 * i)) + 0).toNat = 232 + 11 * i.toNat + 0; omega) (by show i.toNat < 8; omega) (by decide)).trans ((rv_up_n (by decide)).trans ((rv_up_n (by decide)).trans (rv_up_s)))) ?_
              refine w_iret (fun q => by cases q) ?_
              refine w_il rfl ?_
              refine w_cmlt (fun c33 => ?_) (fun c33 => ?_)
              · skip
                refine w_aln rfl ?_
                refine w_iln rfl ?_
                refine w_bp ?_
                refine w_aln rfl ?_
                refine w_iln rfl ?_
                refine w_bp ?_
                refine w_cv (st := [.inl 10, .inl i, .inr (.inr (some m))]) rfl hL.gm rfl (Nat.le_of_ble_eq_true rfl) (fun kk h => h) ⟨Nat.le_of_ble_eq_true rfl, ?_⟩
                show wz (d) mt_X12_of.2.2.2.2.1 _ mt_X12_of.2.2.2.2.1 [some (.inr (.inr (some m))), some (.inl i), some (.inl 10)] [] _ _ _ _
                refine w_aln rfl ?_
                refine w_gr hL.gm rfl (by decide) rfl (hC24.vr hL.m6) ?_
                refine w_sp ?_
                refine w_bp ?_
                refine w_iln rfl ?_
                refine w_mul ⟨by show (-2147483648 : Int) ≤ 11 * i; omega, by show 11 * i < (2147483648 : Int); omega⟩ ?_
                refine w_add ⟨by show (-2147483648 : Int) ≤ 232 + (11 * i); omega, by show 232 + (11 * i) < (2147483648 : Int); omega⟩ ?_
                refine w_iln rfl ?_
                refine w_add ⟨by show (-2147483648 : Int) ≤ (232 + (11 * i)) + 10; omega, by show (232 + (11 * i)) + 10 < (2147483648 : Int); omega⟩ ?_
                refine w_iald (v := (R i.toNat 10)) hL.gs rfl (by show (0 : Int) ≤ (232 + (11 * i)) + 10; omega) (by show (232 + (11 * i)) + 10 < ((537 : Nat) : Int); omega) ((hC24.rr (w := 10) (by show ((232 + (11 * i)) + 10).toNat = 232 + 11 * i.toNat + 10; omega) (by show i.toNat < 8; omega) (by decide)).trans ((rv_up_n (by decide)).trans ((rv_up_n (by decide)).trans ((rv_up_n (by decide)))))) ?_
                refine w_iret (fun q => by cases q) ?_
                refine w_neg ⟨by show (-2147483648 : Int) ≤ (R i.toNat 10); omega, by show (R i.toNat 10) < (2147483648 : Int); omega⟩ (by omega) ?_
                refine w_cv (st := []) rfl hL.gm rfl (Nat.le_of_ble_eq_true rfl) (fun kk h => h) ⟨Nat.le_of_ble_eq_true rfl, ?_⟩
                show wz (d) mt_X12_more.2.2.2.2.1 _ mt_X12_more.2.2.2.2.1 [some (.inr (.inr (some m))), some (.inl i), some (.inl 10), some (.inl (-(R i.toNat 10)))] [] _ _ _ _
                refine w_aln rfl ?_
                refine w_gr hL.gm rfl (by decide) rfl (hC24.vr hL.m6) ?_
                refine w_sp ?_
                refine w_bp ?_
                refine w_iln rfl ?_
                refine w_mul ⟨by show (-2147483648 : Int) ≤ 11 * i; omega, by show 11 * i < (2147483648 : Int); omega⟩ ?_
                refine w_add ⟨by show (-2147483648 : Int) ≤ 232 + (11 * i); omega, by show 232 + (11 * i) < (2147483648 : Int); omega⟩ ?_
                refine w_iln rfl ?_
                refine w_add ⟨by show (-2147483648 : Int) ≤ (232 + (11 * i)) + 10; omega, by show (232 + (11 * i)) + 10 < (2147483648 : Int); omega⟩ ?_
                refine w_dup2 ?_
                refine w_iald (v := (R i.toNat 10)) hL.gs rfl (by show (0 : Int) ≤ (232 + (11 * i)) + 10; omega) (by show (232 + (11 * i)) + 10 < ((537 : Nat) : Int); omega) ((hC24.rr (w := 10) (by show ((232 + (11 * i)) + 10).toNat = 232 + 11 * i.toNat + 10; omega) (by show i.toNat < 8; omega) (by decide)).trans ((rv_up_n (by decide)).trans ((rv_up_n (by decide)).trans ((rv_up_n (by decide)))))) ?_
                refine w_iln rfl ?_
                refine w_add ⟨by show (-2147483648 : Int) ≤ (R i.toNat 10) + (-(R i.toNat 10)); omega, by show (R i.toNat 10) + (-(R i.toNat 10)) < (2147483648 : Int); omega⟩ ?_
                refine w_iast hL.gs rfl (by decide) (by show (0 : Int) ≤ (232 + (11 * i)) + 10; omega) (by show (232 + (11 * i)) + 10 < ((537 : Nat) : Int); omega) ?_
                have hC34 := hC24.pr (w := 10) (v := (R i.toNat 10) + (-(R i.toNat 10))) hL (by show ((232 + (11 * i)) + 10).toNat = 232 + 11 * i.toNat + 10; omega) (by show i.toNat < 8; omega) (by decide)
                refine w_ret ?_
                have eu : ye_u H i.toNat (R i.toNat) = (R i.toNat 0) := by unfold ye_u; split <;> omega
                have ed : ye_d H i.toNat (R i.toNat) = (R i.toNat 2) + 1 := by unfold ye_d; rw [eu]; split <;> omega
                have es : ye_sp H i.toNat (R i.toNat) = 0 := by unfold ye_sp; rw [ed, eu]; split <;> omega
                have ef : ye_fl H i.toNat (R i.toNat) = 0 := by unfold ye_fl; rw [es, eu]; split <;> omega
                have eg : ye_gr H i.toNat (R i.toNat) = (R i.toNat 10) + (-(R i.toNat 10)) := by unfold ye_gr; rw [es, eu]; split <;> omega
                obtain ⟨w0, w1, w2, w3, w4, w5, w6, w7, w8, w9, w10⟩ := ye_dkw (H := H) (t := i.toNat) (r := R i.toNat)
                refine w_ret (h _ (hC34.cg (ye_10 rfl rfl rfl rfl rfl ?_ rfl ?_ rfl rfl) (ye_ru_c (ye_11 ?_ ?_ ?_ ?_ ?_ ?_ ?_ ?_ ?_ ?_ ?_))))
                · refine (rv_up_s).trans (Eq.trans (b := g 227 + (ye_u H i.toNat (R i.toNat) + ye_fl H i.toNat (R i.toNat))) ?_ rfl)
                  first | (rw [eu, ef]; done) | (rw [eu, ef]; omega)
                · refine ((rv_up_n (by decide))).trans (Eq.trans (b := g 229 + ye_sp H i.toNat (R i.toNat)) ?_ rfl)
                  first | (rw [es]; done) | (rw [es]; omega)
                · refine ((rv_up_n (by decide)).trans ((rv_up_n (by decide)).trans ((rv_up_n (by decide)).trans (rv_up_s)))).trans (Eq.trans ?_ w0.symm)
                  first | (rw [eu, es, ef]; done) | (rw [eu, es, ef]; (try split) <;> omega)
                · exact ((rv_up_n (by decide)).trans ((rv_up_n (by decide)).trans ((rv_up_n (by decide)).trans ((rv_up_n (by decide)))))).trans w1.symm
                · refine ((rv_up_n (by decide)).trans ((rv_up_n (by decide)).trans (rv_up_s))).trans (Eq.trans ?_ w2.symm)
                  first | (rw [ed]; done) | (rw [ed]; (try split) <;> omega)
                · refine ((rv_up_n (by decide)).trans ((rv_up_n (by decide)).trans ((rv_up_n (by decide)).trans ((rv_up_n (by decide)))))).trans (Eq.trans ?_ w3.symm)
                  first | (rw [ed]; done) | (rw [ed]; (try split) <;> omega)
                · exact ((rv_up_n (by decide)).trans ((rv_up_n (by decide)).trans ((rv_up_n (by decide)).trans ((rv_up_n (by decide)))))).trans w4.symm
                · exact ((rv_up_n (by decide)).trans ((rv_up_n (by decide)).trans ((rv_up_n (by decide)).trans ((rv_up_n (by decide)))))).trans w5.symm
                · exact ((rv_up_n (by decide)).trans ((rv_up_n (by decide)).trans ((rv_up_n (by decide)).trans ((rv_up_n (by decide)))))).trans w6.symm
                · refine ((rv_up_n (by decide)).trans (rv_up_s)).trans (Eq.trans ?_ w7.symm)
                  first | (rw [eu]; done) | (rw [eu]; (try split) <;> omega)
                · refine ((rv_up_n (by decide)).trans ((rv_up_n (by decide)).trans ((rv_up_n (by decide)).trans ((rv_up_n (by decide)))))).trans (Eq.trans ?_ w8.symm)
                  first | (rw [eg]; done) | (rw [eg]; (try split) <;> omega)
                · exact ((rv_up_n (by decide)).trans ((rv_up_n (by decide)).trans ((rv_up_n (by decide)).trans ((rv_up_n (by decide)))))).trans w9.symm
                · refine (rv_up_s).trans (Eq.trans ?_ w10.symm)
                  first | (rw [eg]; done) | (rw [eg]; (try split) <;> omega)
                
              · exfalso; omega
          · skip
            refine w_aln rfl ?_
            refine w_iln rfl ?_
            refine w_ic ?_
            refine w_ic ?_
            refine w_cv (st := []) rfl hL.gm rfl (Nat.le_of_ble_eq_true rfl) (fun kk h => h) ⟨Nat.le_of_ble_eq_true rfl, ?_⟩
            show wz (d) mt_X12_more.2.2.2.2.1 _ mt_X12_more.2.2.2.2.1 [some (.inr (.inr (some m))), some (.inl i), some (.inl 3), some (.inl 1)] [] _ _ _ _
            refine w_aln rfl ?_
            refine w_gr hL.gm rfl (by decide) rfl (hC24.vr hL.m6) ?_
            refine w_sp ?_
            refine w_bp ?_
            refine w_iln rfl ?_
            refine w_mul ⟨by show (-2147483648 : Int) ≤ 11 * i; omega, by show 11 * i < (2147483648 : Int); omega⟩ ?_
            refine w_add ⟨by show (-2147483648 : Int) ≤ 232 + (11 * i); omega, by show 232 + (11 * i) < (2147483648 : Int); omega⟩ ?_
            refine w_iln rfl ?_
            refine w_add ⟨by show (-2147483648 : Int) ≤ (232 + (11 * i)) + 3; omega, by show (232 + (11 * i)) + 3 < (2147483648 : Int); omega⟩ ?_
            refine w_dup2 ?_
            refine w_iald (v := (R i.toNat 3)) hL.gs rfl (by show (0 : Int) ≤ (232 + (11 * i)) + 3; omega) (by show (232 + (11 * i)) + 3 < ((537 : Nat) : Int); omega) ((hC24.rr (w := 3) (by show ((232 + (11 * i)) + 3).toNat = 232 + 11 * i.toNat + 3; omega) (by show i.toNat < 8; omega) (by decide)).trans ((rv_up_n (by decide)).trans ((rv_up_n (by decide)).trans ((rv_up_n (by decide)))))) ?_
            refine w_iln rfl ?_
            refine w_add ⟨by show (-2147483648 : Int) ≤ (R i.toNat 3) + 1; omega, by show (R i.toNat 3) + 1 < (2147483648 : Int); omega⟩ ?_
            refine w_iast hL.gs rfl (by decide) (by show (0 : Int) ≤ (232 + (11 * i)) + 3; omega) (by show (232 + (11 * i)) + 3 < ((537 : Nat) : Int); omega) ?_
            have hC35 := hC24.pr (w := 3) (v := (R i.toNat 3) + 1) hL (by show ((232 + (11 * i)) + 3).toNat = 232 + 11 * i.toNat + 3; omega) (by show i.toNat < 8; omega) (by decide)
            refine w_ret ?_
            refine w_aln rfl ?_
            refine w_gr hL.gm rfl (by decide) rfl (hC35.vr hL.m6) ?_
            refine w_sp ?_
            refine w_dup2 ?_
            refine w_iald (v := (g 229)) hL.gs rfl (by show (0 : Int) ≤ 229; omega) (by show 229 < ((537 : Nat) : Int); omega) ((hC35.vg (k := 229) (by decide) (by decide)).trans ((rv_up_n (by decide)))) ?_
            refine w_aln rfl ?_
            refine w_iln rfl ?_
            refine w_ic ?_
            refine w_cv (st := [.inl (g 229), .inl 229, .inr (.inr (some s))]) rfl hL.gm rfl (Nat.le_of_ble_eq_true rfl) (fun kk h => h) ⟨Nat.le_of_ble_eq_true rfl, ?_⟩
            show wz (d) mt_X12_of.2.2.2.2.1 _ mt_X12_of.2.2.2.2.1 [some (.inr (.inr (some m))), some (.inl i), some (.inl 0)] [] _ _ _ _
            refine w_aln rfl ?_
            refine w_gr hL.gm rfl (by decide) rfl (hC35.vr hL.m6) ?_
            refine w_sp ?_
            refine w_bp ?_
            refine w_iln rfl ?_
            refine w_mul ⟨by show (-2147483648 : Int) ≤ 11 * i; omega, by show 11 * i < (2147483648 : Int); omega⟩ ?_
            refine w_add ⟨by show (-2147483648 : Int) ≤ 232 + (11 * i); omega, by show 232 + (11 * i) < (2147483648 : Int); omega⟩ ?_
            refine w_iln rfl ?_
            refine w_add ⟨by show (-2147483648 : Int) ≤ (232 + (11 * i)) + 0; omega, by show (232 + (11 * i)) + 0 < (2147483648 : Int); omega⟩ ?_
            refine w_iald (v := (R i.toNat 0) + (-(R i.toNat 0))) hL.gs rfl (by show (0 : Int) ≤ (232 + (11 * i)) + 0; omega) (by show (232 + (11 * i)) + 0 < ((537 : Nat) : Int); omega) ((hC35.rr (w := 0) (by show ((232 + (11 * i)) + 0).toNat = 232 + 11 * i.toNat + 0; omega) (by show i.toNat < 8; omega) (by decide)).trans ((rv_up_n (by decide)).trans ((rv_up_n (by decide)).trans ((rv_up_n (by decide)).trans (rv_up_s))))) ?_
            refine w_iret (fun q => by cases q) ?_
            refine w_add ⟨by show (-2147483648 : Int) ≤ (g 229) + ((R i.toNat 0) + (-(R i.toNat 0))); omega, by show (g 229) + ((R i.toNat 0) + (-(R i.toNat 0))) < (2147483648 : Int); omega⟩ ?_
            refine w_iast hL.gs rfl (by decide) (by show (0 : Int) ≤ 229; omega) (by show 229 < ((537 : Nat) : Int); omega) ?_
            have hC36 := hC35.pg (k := 229) (v := (g 229) + ((R i.toNat 0) + (-(R i.toNat 0)))) hL (by decide) (by decide) (by show (229 : Int).toNat = 229; omega)
            refine w_aln rfl ?_
            refine w_iln rfl ?_
            refine w_ic ?_
            refine w_aln rfl ?_
            refine w_iln rfl ?_
            refine w_ic ?_
            refine w_cv (st := [.inl 0, .inl i, .inr (.inr (some m))]) rfl hL.gm rfl (Nat.le_of_ble_eq_true rfl) (fun kk h => h) ⟨Nat.le_of_ble_eq_true rfl, ?_⟩
            show wz (d) mt_X12_of.2.2.2.2.1 _ mt_X12_of.2.2.2.2.1 [some (.inr (.inr (some m))), some (.inl i), some (.inl 0)] [] _ _ _ _
            refine w_aln rfl ?_
            refine w_gr hL.gm rfl (by decide) rfl (hC36.vr hL.m6) ?_
            refine w_sp ?_
            refine w_bp ?_
            refine w_iln rfl ?_
            refine w_mul ⟨by show (-2147483648 : Int) ≤ 11 * i; omega, by show 11 * i < (2147483648 : Int); omega⟩ ?_
            refine w_add ⟨by show (-2147483648 : Int) ≤ 232 + (11 * i); omega, by show 232 + (11 * i) < (2147483648 : Int); omega⟩ ?_
            refine w_iln rfl ?_
            refine w_add ⟨by show (-2147483648 : Int) ≤ (232 + (11 * i)) + 0; omega, by show (232 + (11 * i)) + 0 < (2147483648 : Int); omega⟩ ?_
            refine w_iald (v := (R i.toNat 0) + (-(R i.toNat 0))) hL.gs rfl (by show (0 : Int) ≤ (232 + (11 * i)) + 0; omega) (by show (232 + (11 * i)) + 0 < ((537 : Nat) : Int); omega) ((hC36.rr (w := 0) (by show ((232 + (11 * i)) + 0).toNat = 232 + 11 * i.toNat + 0; omega) (by show i.toNat < 8; omega) (by decide)).trans ((rv_up_n (by decide)).trans ((rv_up_n (by decide)).trans ((rv_up_n (by decide)).trans (rv_up_s))))) ?_
            refine w_iret (fun q => by cases q) ?_
            refine w_neg ⟨by show (-2147483648 : Int) ≤ (R i.toNat 0) + (-(R i.toNat 0)); omega, by show (R i.toNat 0) + (-(R i.toNat 0)) < (2147483648 : Int); omega⟩ (by omega) ?_
            refine w_cv (st := []) rfl hL.gm rfl (Nat.le_of_ble_eq_true rfl) (fun kk h => h) ⟨Nat.le_of_ble_eq_true rfl, ?_⟩
            show wz (d) mt_X12_more.2.2.2.2.1 _ mt_X12_more.2.2.2.2.1 [some (.inr (.inr (some m))), some (.inl i), some (.inl 0), some (.inl (-((R i.toNat 0) + (-(R i.toNat 0)))))] [] _ _ _ _
            refine w_aln rfl ?_
            refine w_gr hL.gm rfl (by decide) rfl (hC36.vr hL.m6) ?_
            refine w_sp ?_
            refine w_bp ?_
            refine w_iln rfl ?_
            refine w_mul ⟨by show (-2147483648 : Int) ≤ 11 * i; omega, by show 11 * i < (2147483648 : Int); omega⟩ ?_
            refine w_add ⟨by show (-2147483648 : Int) ≤ 232 + (11 * i); omega, by show 232 + (11 * i) < (2147483648 : Int); omega⟩ ?_
            refine w_iln rfl ?_
            refine w_add ⟨by show (-2147483648 : Int) ≤ (232 + (11 * i)) + 0; omega, by show (232 + (11 * i)) + 0 < (2147483648 : Int); omega⟩ ?_
            refine w_dup2 ?_
            refine w_iald (v := (R i.toNat 0) + (-(R i.toNat 0))) hL.gs rfl (by show (0 : Int) ≤ (232 + (11 * i)) + 0; omega) (by show (232 + (11 * i)) + 0 < ((537 : Nat) : Int); omega) ((hC36.rr (w := 0) (by show ((232 + (11 * i)) + 0).toNat = 232 + 11 * i.toNat + 0; omega) (by show i.toNat < 8; omega) (by decide)).trans ((rv_up_n (by decide)).trans ((rv_up_n (by decide)).trans ((rv_up_n (by decide)).trans (rv_up_s))))) ?_
            refine w_iln rfl ?_
            refine w_add ⟨by show (-2147483648 : Int) ≤ ((R i.toNat 0) + (-(R i.toNat 0))) + (-((R i.toNat 0) + (-(R i.toNat 0)))); omega, by show ((R i.toNat 0) + (-(R i.toNat 0))) + (-((R i.toNat 0) + (-(R i.toNat 0)))) < (2147483648 : Int); omega⟩ ?_
            refine w_iast hL.gs rfl (by decide) (by show (0 : Int) ≤ (232 + (11 * i)) + 0; omega) (by show (232 + (11 * i)) + 0 < ((537 : Nat) : Int); omega) ?_
            have hC37 := hC36.pr (w := 0) (v := ((R i.toNat 0) + (-(R i.toNat 0))) + (-((R i.toNat 0) + (-(R i.toNat 0))))) hL (by show ((232 + (11 * i)) + 0).toNat = 232 + 11 * i.toNat + 0; omega) (by show i.toNat < 8; omega) (by decide)
            refine w_ret ?_
            refine w_aln rfl ?_
            refine w_iln rfl ?_
            refine w_bp ?_
            refine w_cv (st := []) rfl hL.gm rfl (Nat.le_of_ble_eq_true rfl) (fun kk h => h) ⟨Nat.le_of_ble_eq_true rfl, ?_⟩
            show wz (d) mt_X12_toldOf.2.2.2.2.1 _ mt_X12_toldOf.2.2.2.2.1 [some (.inr (.inr (some m))), some (.inl i), some (.inl 7)] [] _ _ _ _
            refine w_aln rfl ?_
            refine w_gr hL.gm rfl (by decide) rfl (hC37.vr hL.m6) ?_
            refine w_ic ?_
            refine w_bp ?_
            refine w_iln rfl ?_
            refine w_mul ⟨by show (-2147483648 : Int) ≤ 9 * i; omega, by show 9 * i < (2147483648 : Int); omega⟩ ?_
            refine w_add ⟨by show (-2147483648 : Int) ≤ 4 + (9 * i); omega, by show 4 + (9 * i) < (2147483648 : Int); omega⟩ ?_
            refine w_iln rfl ?_
            refine w_add ⟨by show (-2147483648 : Int) ≤ (4 + (9 * i)) + 7; omega, by show (4 + (9 * i)) + 7 < (2147483648 : Int); omega⟩ ?_
            refine w_iald (v := (H (11 + 9 * i.toNat))) hL.gs rfl (by show (0 : Int) ≤ (4 + (9 * i)) + 7; omega) (by show (4 + (9 * i)) + 7 < ((537 : Nat) : Int); omega) (hC37.vn hL (by show ((4 + (9 * i)) + 7).toNat = 11 + 9 * i.toNat; omega) (by show 11 + 9 * i.toNat < 221; omega)) ?_
            refine w_iret (fun q => by cases q) ?_
            refine w_is ?_
            show wz _ _ _ _ [some (.inr (.inr (some m))), some (.inl i), some (.inl (R i.toNat 0)), some (.inl 1), some (.inl (H (11 + 9 * i.toNat)))] _ _ _ _ _
            refine w_il rfl ?_
            refine w_ifle (fun c38 => ?_) (fun c38 => ?_)
            · skip
              refine w_aln rfl ?_
              refine w_iln rfl ?_
              refine w_bp ?_
              refine w_aln rfl ?_
              refine w_iln rfl ?_
              refine w_bp ?_
              refine w_cv (st := [.inl 10, .inl i, .inr (.inr (some m))]) rfl hL.gm rfl (Nat.le_of_ble_eq_true rfl) (fun kk h => h) ⟨Nat.le_of_ble_eq_true rfl, ?_⟩
              show wz (d) mt_X12_of.2.2.2.2.1 _ mt_X12_of.2.2.2.2.1 [some (.inr (.inr (some m))), some (.inl i), some (.inl 10)] [] _ _ _ _
              refine w_aln rfl ?_
              refine w_gr hL.gm rfl (by decide) rfl (hC37.vr hL.m6) ?_
              refine w_sp ?_
              refine w_bp ?_
              refine w_iln rfl ?_
              refine w_mul ⟨by show (-2147483648 : Int) ≤ 11 * i; omega, by show 11 * i < (2147483648 : Int); omega⟩ ?_
              refine w_add ⟨by show (-2147483648 : Int) ≤ 232 + (11 * i); omega, by show 232 + (11 * i) < (2147483648 : Int); omega⟩ ?_
              refine w_iln rfl ?_
              refine w_add ⟨by show (-2147483648 : Int) ≤ (232 + (11 * i)) + 10; omega, by show (232 + (11 * i)) + 10 < (2147483648 : Int); omega⟩ ?_
              refine w_iald (v := (R i.toNat 10)) hL.gs rfl (by show (0 : Int) ≤ (232 + (11 * i)) + 10; omega) (by show (232 + (11 * i)) + 10 < ((537 : Nat) : Int); omega) ((hC37.rr (w := 10) (by show ((232 + (11 * i)) + 10).toNat = 232 + 11 * i.toNat + 10; omega) (by show i.toNat < 8; omega) (by decide)).trans ((rv_up_n (by decide)).trans ((rv_up_n (by decide)).trans ((rv_up_n (by decide)).trans ((rv_up_n (by decide)).trans ((rv_up_n (by decide)))))))) ?_
              refine w_iret (fun q => by cases q) ?_
              refine w_neg ⟨by show (-2147483648 : Int) ≤ (R i.toNat 10); omega, by show (R i.toNat 10) < (2147483648 : Int); omega⟩ (by omega) ?_
              refine w_cv (st := []) rfl hL.gm rfl (Nat.le_of_ble_eq_true rfl) (fun kk h => h) ⟨Nat.le_of_ble_eq_true rfl, ?_⟩
              show wz (d) mt_X12_more.2.2.2.2.1 _ mt_X12_more.2.2.2.2.1 [some (.inr (.inr (some m))), some (.inl i), some (.inl 10), some (.inl (-(R i.toNat 10)))] [] _ _ _ _
              refine w_aln rfl ?_
              refine w_gr hL.gm rfl (by decide) rfl (hC37.vr hL.m6) ?_
              refine w_sp ?_
              refine w_bp ?_
              refine w_iln rfl ?_
              refine w_mul ⟨by show (-2147483648 : Int) ≤ 11 * i; omega, by show 11 * i < (2147483648 : Int); omega⟩ ?_
              refine w_add ⟨by show (-2147483648 : Int) ≤ 232 + (11 * i); omega, by show 232 + (11 * i) < (2147483648 : Int); omega⟩ ?_
              refine w_iln rfl ?_
              refine w_add ⟨by show (-2147483648 : Int) ≤ (232 + (11 * i)) + 10; omega, by show (232 + (11 * i)) + 10 < (2147483648 : Int); omega⟩ ?_
              refine w_dup2 ?_
              refine w_iald (v := (R i.toNat 10)) hL.gs rfl (by show (0 : Int) ≤ (232 + (11 * i)) + 10; omega) (by show (232 + (11 * i)) + 10 < ((537 : Nat) : Int); omega) ((hC37.rr (w := 10) (by show ((232 + (11 * i)) + 10).toNat = 232 + 11 * i.toNat + 10; omega) (by show i.toNat < 8; omega) (by decide)).trans ((rv_up_n (by decide)).trans ((rv_up_n (by decide)).trans ((rv_up_n (by decide)).trans ((rv_up_n (by decide)).trans ((rv_up_n (by decide)))))))) ?_
              refine w_iln rfl ?_
              refine w_add ⟨by show (-2147483648 : Int) ≤ (R i.toNat 10) + (-(R i.toNat 10)); omega, by show (R i.toNat 10) + (-(R i.toNat 10)) < (2147483648 : Int); omega⟩ ?_
              refine w_iast hL.gs rfl (by decide) (by show (0 : Int) ≤ (232 + (11 * i)) + 10; omega) (by show (232 + (11 * i)) + 10 < ((537 : Nat) : Int); omega) ?_
              have hC39 := hC37.pr (w := 10) (v := (R i.toNat 10) + (-(R i.toNat 10))) hL (by show ((232 + (11 * i)) + 10).toNat = 232 + 11 * i.toNat + 10; omega) (by show i.toNat < 8; omega) (by decide)
              refine w_ret ?_
              have eu : ye_u H i.toNat (R i.toNat) = (R i.toNat 0) := by unfold ye_u; split <;> omega
              have ed : ye_d H i.toNat (R i.toNat) = (R i.toNat 2) + 1 := by unfold ye_d; rw [eu]; split <;> omega
              have es : ye_sp H i.toNat (R i.toNat) = R i.toNat 0 - (R i.toNat 0) := by unfold ye_sp; rw [ed, eu]; split <;> omega
              have ef : ye_fl H i.toNat (R i.toNat) = 0 := by unfold ye_fl; rw [es, eu]; split <;> omega
              have eg : ye_gr H i.toNat (R i.toNat) = (R i.toNat 10) + (-(R i.toNat 10)) := by unfold ye_gr; rw [es, eu]; split <;> omega
              obtain ⟨w0, w1, w2, w3, w4, w5, w6, w7, w8, w9, w10⟩ := ye_dkw (H := H) (t := i.toNat) (r := R i.toNat)
              refine w_ret (h _ (hC39.cg (ye_10 rfl rfl rfl rfl rfl ?_ rfl ?_ rfl rfl) (ye_ru_c (ye_11 ?_ ?_ ?_ ?_ ?_ ?_ ?_ ?_ ?_ ?_ ?_))))
              · refine ((rv_up_n (by decide)).trans (rv_up_s)).trans (Eq.trans (b := g 227 + (ye_u H i.toNat (R i.toNat) + ye_fl H i.toNat (R i.toNat))) ?_ rfl)
                first | (rw [eu, ef]; done) | (rw [eu, ef]; omega)
              · refine (rv_up_s).trans (Eq.trans (b := g 229 + ye_sp H i.toNat (R i.toNat)) ?_ rfl)
                first | (rw [es]; done) | (rw [es]; omega)
              · refine ((rv_up_n (by decide)).trans (rv_up_s)).trans (Eq.trans ?_ w0.symm)
                first | (rw [eu, es, ef]; done) | (rw [eu, es, ef]; (try split) <;> omega)
              · exact ((rv_up_n (by decide)).trans ((rv_up_n (by decide)).trans ((rv_up_n (by decide)).trans ((rv_up_n (by decide)).trans ((rv_up_n (by decide)).trans ((rv_up_n (by decide)))))))).trans w1.symm
              · refine ((rv_up_n (by decide)).trans ((rv_up_n (by decide)).trans ((rv_up_n (by decide)).trans ((rv_up_n (by decide)).trans (rv_up_s))))).trans (Eq.trans ?_ w2.symm)
                first | (rw [ed]; done) | (rw [ed]; (try split) <;> omega)
              · refine ((rv_up_n (by decide)).trans ((rv_up_n (by decide)).trans (rv_up_s))).trans (Eq.trans ?_ w3.symm)
                first | (rw [ed]; done) | (rw [ed]; (try split) <;> omega)
              · exact ((rv_up_n (by decide)).trans ((rv_up_n (by decide)).trans ((rv_up_n (by decide)).trans ((rv_up_n (by decide)).trans ((rv_up_n (by decide)).trans ((rv_up_n (by decide)))))))).trans w4.symm
              · exact ((rv_up_n (by decide)).trans ((rv_up_n (by decide)).trans ((rv_up_n (by decide)).trans ((rv_up_n (by decide)).trans ((rv_up_n (by decide)).trans ((rv_up_n (by decide)))))))).trans w5.symm
              · exact ((rv_up_n (by decide)).trans ((rv_up_n (by decide)).trans ((rv_up_n (by decide)).trans ((rv_up_n (by decide)).trans ((rv_up_n (by decide)).trans ((rv_up_n (by decide)))))))).trans w6.symm
              · refine ((rv_up_n (by decide)).trans ((rv_up_n (by decide)).trans ((rv_up_n (by decide)).trans (rv_up_s)))).trans (Eq.trans ?_ w7.symm)
                first | (rw [eu]; done) | (rw [eu]; (try split) <;> omega)
              · refine ((rv_up_n (by decide)).trans ((rv_up_n (by decide)).trans ((rv_up_n (by decide)).trans ((rv_up_n (by decide)).trans ((rv_up_n (by decide)).trans ((rv_up_n (by decide)))))))).trans (Eq.trans ?_ w8.symm)
                first | (rw [eg]; done) | (rw [eg]; (try split) <;> omega)
              · exact ((rv_up_n (by decide)).trans ((rv_up_n (by decide)).trans ((rv_up_n (by decide)).trans ((rv_up_n (by decide)).trans ((rv_up_n (by decide)).trans ((rv_up_n (by decide)))))))).trans w9.symm
              · refine (rv_up_s).trans (Eq.trans ?_ w10.symm)
                first | (rw [eg]; done) | (rw [eg]; (try split) <;> omega)
              
            · skip
              refine w_aln rfl ?_
              refine w_iln rfl ?_
              refine w_ic ?_
              refine w_cv (st := []) rfl hL.gm rfl (Nat.le_of_ble_eq_true rfl) (fun kk h => h) ⟨Nat.le_of_ble_eq_true rfl, ?_⟩
              show wz (d) mt_X12_of.2.2.2.2.1 _ mt_X12_of.2.2.2.2.1 [some (.inr (.inr (some m))), some (.inl i), some (.inl 0)] [] _ _ _ _
              refine w_aln rfl ?_
              refine w_gr hL.gm rfl (by decide) rfl (hC37.vr hL.m6) ?_
              refine w_sp ?_
              refine w_bp ?_
              refine w_iln rfl ?_
              refine w_mul ⟨by show (-2147483648 : Int) ≤ 11 * i; omega, by show 11 * i < (2147483648 : Int); omega⟩ ?_
              refine w_add ⟨by show (-2147483648 : Int) ≤ 232 + (11 * i); omega, by show 232 + (11 * i) < (2147483648 : Int); omega⟩ ?_
              refine w_iln rfl ?_
              refine w_add ⟨by show (-2147483648 : Int) ≤ (232 + (11 * i)) + 0; omega, by show (232 + (11 * i)) + 0 < (2147483648 : Int); omega⟩ ?_
              refine w_iald (v := ((R i.toNat 0) + (-(R i.toNat 0))) + (-((R i.toNat 0) + (-(R i.toNat 0))))) hL.gs rfl (by show (0 : Int) ≤ (232 + (11 * i)) + 0; omega) (by show (232 + (11 * i)) + 0 < ((537 : Nat) : Int); omega) ((hC37.rr (w := 0) (by show ((232 + (11 * i)) + 0).toNat = 232 + 11 * i.toNat + 0; omega) (by show i.toNat < 8; omega) (by decide)).trans (rv_up_s)) ?_
              refine w_iret (fun q => by cases q) ?_
              refine w_il rfl ?_
              refine w_cmlt (fun c40 => ?_) (fun c40 => ?_)
              · skip
                refine w_aln rfl ?_
                refine w_iln rfl ?_
                refine w_bp ?_
                refine w_aln rfl ?_
                refine w_iln rfl ?_
                refine w_bp ?_
                refine w_cv (st := [.inl 10, .inl i, .inr (.inr (some m))]) rfl hL.gm rfl (Nat.le_of_ble_eq_true rfl) (fun kk h => h) ⟨Nat.le_of_ble_eq_true rfl, ?_⟩
                show wz (d) mt_X12_of.2.2.2.2.1 _ mt_X12_of.2.2.2.2.1 [some (.inr (.inr (some m))), some (.inl i), some (.inl 10)] [] _ _ _ _
                refine w_aln rfl ?_
                refine w_gr hL.gm rfl (by decide) rfl (hC37.vr hL.m6) ?_
                refine w_sp ?_
                refine w_bp ?_
                refine w_iln rfl ?_
                refine w_mul ⟨by show (-2147483648 : Int) ≤ 11 * i; omega, by show 11 * i < (2147483648 : Int); omega⟩ ?_
                refine w_add ⟨by show (-2147483648 : Int) ≤ 232 + (11 * i); omega, by show 232 + (11 * i) < (2147483648 : Int); omega⟩ ?_
                refine w_iln rfl ?_
                refine w_add ⟨by show (-2147483648 : Int) ≤ (232 + (11 * i)) + 10; omega, by show (232 + (11 * i)) + 10 < (2147483648 : Int); omega⟩ ?_
                refine w_iald (v := (R i.toNat 10)) hL.gs rfl (by show (0 : Int) ≤ (232 + (11 * i)) + 10; omega) (by show (232 + (11 * i)) + 10 < ((537 : Nat) : Int); omega) ((hC37.rr (w := 10) (by show ((232 + (11 * i)) + 10).toNat = 232 + 11 * i.toNat + 10; omega) (by show i.toNat < 8; omega) (by decide)).trans ((rv_up_n (by decide)).trans ((rv_up_n (by decide)).trans ((rv_up_n (by decide)).trans ((rv_up_n (by decide)).trans ((rv_up_n (by decide)))))))) ?_
                refine w_iret (fun q => by cases q) ?_
                refine w_neg ⟨by show (-2147483648 : Int) ≤ (R i.toNat 10); omega, by show (R i.toNat 10) < (2147483648 : Int); omega⟩ (by omega) ?_
                refine w_cv (st := []) rfl hL.gm rfl (Nat.le_of_ble_eq_true rfl) (fun kk h => h) ⟨Nat.le_of_ble_eq_true rfl, ?_⟩
                show wz (d) mt_X12_more.2.2.2.2.1 _ mt_X12_more.2.2.2.2.1 [some (.inr (.inr (some m))), some (.inl i), some (.inl 10), some (.inl (-(R i.toNat 10)))] [] _ _ _ _
                refine w_aln rfl ?_
                refine w_gr hL.gm rfl (by decide) rfl (hC37.vr hL.m6) ?_
                refine w_sp ?_
                refine w_bp ?_
                refine w_iln rfl ?_
                refine w_mul ⟨by show (-2147483648 : Int) ≤ 11 * i; omega, by show 11 * i < (2147483648 : Int); omega⟩ ?_
                refine w_add ⟨by show (-2147483648 : Int) ≤ 232 + (11 * i); omega, by show 232 + (11 * i) < (2147483648 : Int); omega⟩ ?_
                refine w_iln rfl ?_
                refine w_add ⟨by show (-2147483648 : Int) ≤ (232 + (11 * i)) + 10; omega, by show (232 + (11 * i)) + 10 < (2147483648 : Int); omega⟩ ?_
                refine w_dup2 ?_
                refine w_iald (v := (R i.toNat 10)) hL.gs rfl (by show (0 : Int) ≤ (232 + (11 * i)) + 10; omega) (by show (232 + (11 * i)) + 10 < ((537 : Nat) : Int); omega) ((hC37.rr (w := 10) (by show ((232 + (11 * i)) + 10).toNat = 232 + 11 * i.toNat + 10; omega) (by show i.toNat < 8; omega) (by decide)).trans ((rv_up_n (by decide)).trans ((rv_up_n (by decide)).trans ((rv_up_n (by decide)).trans ((rv_up_n (by decide)).trans ((rv_up_n (by decide)))))))) ?_
                refine w_iln rfl ?_
                refine w_add ⟨by show (-2147483648 : Int) ≤ (R i.toNat 10) + (-(R i.toNat 10)); omega, by show (R i.toNat 10) + (-(R i.toNat 10)) < (2147483648 : Int); omega⟩ ?_
                refine w_iast hL.gs rfl (by decide) (by show (0 : Int) ≤ (232 + (11 * i)) + 10; omega) (by show (232 + (11 * i)) + 10 < ((537 : Nat) : Int); omega) ?_
                have hC41 := hC37.pr (w := 10) (v := (R i.toNat 10) + (-(R i.toNat 10))) hL (by show ((232 + (11 * i)) + 10).toNat = 232 + 11 * i.toNat + 10; omega) (by show i.toNat < 8; omega) (by decide)
                refine w_ret ?_
                have eu : ye_u H i.toNat (R i.toNat) = (R i.toNat 0) := by unfold ye_u; split <;> omega
                have ed : ye_d H i.toNat (R i.toNat) = (R i.toNat 2) + 1 := by unfold ye_d; rw [eu]; split <;> omega
                have es : ye_sp H i.toNat (R i.toNat) = R i.toNat 0 - (R i.toNat 0) := by unfold ye_sp; rw [ed, eu]; split <;> omega
                have ef : ye_fl H i.toNat (R i.toNat) = 0 := by unfold ye_fl; rw [es, eu]; split <;> omega
                have eg : ye_gr H i.toNat (R i.toNat) = (R i.toNat 10) + (-(R i.toNat 10)) := by unfold ye_gr; rw [es, eu]; split <;> omega
                obtain ⟨w0, w1, w2, w3, w4, w5, w6, w7, w8, w9, w10⟩ := ye_dkw (H := H) (t := i.toNat) (r := R i.toNat)
                refine w_ret (h _ (hC41.cg (ye_10 rfl rfl rfl rfl rfl ?_ rfl ?_ rfl rfl) (ye_ru_c (ye_11 ?_ ?_ ?_ ?_ ?_ ?_ ?_ ?_ ?_ ?_ ?_))))
                · refine ((rv_up_n (by decide)).trans (rv_up_s)).trans (Eq.trans (b := g 227 + (ye_u H i.toNat (R i.toNat) + ye_fl H i.toNat (R i.toNat))) ?_ rfl)
                  first | (rw [eu, ef]; done) | (rw [eu, ef]; omega)
                · refine (rv_up_s).trans (Eq.trans (b := g 229 + ye_sp H i.toNat (R i.toNat)) ?_ rfl)
                  first | (rw [es]; done) | (rw [es]; omega)
                · refine ((rv_up_n (by decide)).trans (rv_up_s)).trans (Eq.trans ?_ w0.symm)
                  first | (rw [eu, es, ef]; done) | (rw [eu, es, ef]; (try split) <;> omega)
                · exact ((rv_up_n (by decide)).trans ((rv_up_n (by decide)).trans ((rv_up_n (by decide)).trans ((rv_up_n (by decide)).trans ((rv_up_n (by decide)).trans ((rv_up_n (by decide)))))))).trans w1.symm
                · refine ((rv_up_n (by decide)).trans ((rv_up_n (by decide)).trans ((rv_up_n (by decide)).trans ((rv_up_n (by decide)).trans (rv_up_s))))).trans (Eq.trans ?_ w2.symm)
                  first | (rw [ed]; done) | (rw [ed]; (try split) <;> omega)
                · refine ((rv_up_n (by decide)).trans ((rv_up_n (by decide)).trans (rv_up_s))).trans (Eq.trans ?_ w3.symm)
                  first | (rw [ed]; done) | (rw [ed]; (try split) <;> omega)
                · exact ((rv_up_n (by decide)).trans ((rv_up_n (by decide)).trans ((rv_up_n (by decide)).trans ((rv_up_n (by decide)).trans ((rv_up_n (by decide)).trans ((rv_up_n (by decide)))))))).trans w4.symm
                · exact ((rv_up_n (by decide)).trans ((rv_up_n (by decide)).trans ((rv_up_n (by decide)).trans ((rv_up_n (by decide)).trans ((rv_up_n (by decide)).trans ((rv_up_n (by decide)))))))).trans w5.symm
                · exact ((rv_up_n (by decide)).trans ((rv_up_n (by decide)).trans ((rv_up_n (by decide)).trans ((rv_up_n (by decide)).trans ((rv_up_n (by decide)).trans ((rv_up_n (by decide)))))))).trans w6.symm
                · refine ((rv_up_n (by decide)).trans ((rv_up_n (by decide)).trans ((rv_up_n (by decide)).trans (rv_up_s)))).trans (Eq.trans ?_ w7.symm)
                  first | (rw [eu]; done) | (rw [eu]; (try split) <;> omega)
                · refine ((rv_up_n (by decide)).trans ((rv_up_n (by decide)).trans ((rv_up_n (by decide)).trans ((rv_up_n (by decide)).trans ((rv_up_n (by decide)).trans ((rv_up_n (by decide)))))))).trans (Eq.trans ?_ w8.symm)
                  first | (rw [eg]; done) | (rw [eg]; (try split) <;> omega)
                · exact ((rv_up_n (by decide)).trans ((rv_up_n (by decide)).trans ((rv_up_n (by decide)).trans ((rv_up_n (by decide)).trans ((rv_up_n (by decide)).trans ((rv_up_n (by decide)))))))).trans w9.symm
                · refine (rv_up_s).trans (Eq.trans ?_ w10.symm)
                  first | (rw [eg]; done) | (rw [eg]; (try split) <;> omega)
                
              · exfalso; omega
