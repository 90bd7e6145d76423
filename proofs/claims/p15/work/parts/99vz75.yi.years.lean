/-! ===== YEARS of the reference: begun, whole; what is kept meanwhile (laid by a program) ===== -/
section YI
variable {G : mj_G} {M M0 M1 M2 M' : mj_M} {s m bf : Nat} {H g A B C : Nat → Int} {R : Nat → Nat → Int} {L O P z : Int} {st : ye_T} {k : Nat}
theorem yq_S.re : yq_S s m M (M.1 s) (fun j => M.1 s (320 + 3 * j)) (fun j => M.1 s (321 + 3 * j)) (fun j => M.1 s (322 + 3 * j)) (fun t w => M.1 s (232 + 11 * t + w)) (M.1 m 29) (M.1 m 30) (M.1 m 31) M := ⟨rfl, fun _ _ _ => rfl, fun _ _ _ _ => rfl, ⟨rfl, rfl, rfl⟩, fun _ _ => rfl, fun _ _ _ => rfl, fun _ _ => ⟨rfl, rfl, rfl⟩, fun _ _ _ _ => rfl⟩
/-- s holds the YEAR st -/
def yq_T (s m : Nat) (M0 : mj_M) (st : ye_T) (M : mj_M) : Prop := ∃ L O P, yq_S s m M0 st.1 st.2.1 st.2.2.1 st.2.2.2.1 st.2.2.2.2 L O P M
/-- the seed alone is another one: base and memory alike -/
theorem yq_S.rb (h : yq_S s m M0 g A B C R L O P M) (hL : yq_L G M0 s m H) : yq_S s m (mj_p0 M0 m 47 z) g A B C R L O P (mj_p0 M m 47 z) := by
  obtain ⟨h1, h2, h3, ⟨b1, b2, b3⟩, h5, h6, h7, h8⟩ := h
  have e : (mj_p0 M m 47 z).1 s = M.1 s := wz_c hL.sm
  refine ⟨h1, fun a a1 a2 => (wz_c a2).trans ((h2 a a1 a2).trans (wz_c a2).symm), fun k k1 k2 k3 => ?_, ⟨(hn_n (Or.inr (by decide))).trans b1, (hn_n (Or.inr (by decide))).trans b2, (hn_n (Or.inr (by decide))).trans b3⟩, ?_, by rw [e]; exact h6, by rw [e]; exact h7, by rw [e]; exact h8⟩
  · by_cases c : k = 47
    · subst c; exact hn_s.trans hn_s.symm
    · exact (hn_n (Or.inr c)).trans ((h3 k k1 k2 k3).trans (hn_n (Or.inr c)).symm)
  · rw [e, show (mj_p0 M0 m 47 z).1 s = M0.1 s from wz_c hL.sm]; exact h5
theorem yq_L.sd (h : yq_L G M0 s m H) : yq_L G (mj_p0 M0 m 47 z) s m H := ⟨h.1, h.2.1, h.2.2.1, fun j hj => (congrFun (wz_c h.sm) j).trans (h.2.2.2.1 j hj), (hn_n (Or.inr (by decide))).trans h.2.2.2.2⟩
theorem mj_p47 {a b : Int} : mj_p0 (mj_p0 M m 47 a) m 47 b = mj_p0 M m 47 b := by
  have e : (mj_p0 (mj_p0 M m 47 a) m 47 b).1 = (mj_p0 M m 47 b).1 := funext fun x => funext fun j => by
    show (if x = m ∧ j = 47 then b else if x = m ∧ j = 47 then a else M.1 x j) = (if x = m ∧ j = 47 then b else M.1 x j)
    by_cases c : x = m ∧ j = 47
    · rw [if_pos c, if_pos c]
    · rw [if_neg c, if_neg c, if_neg c]
  show ((mj_p0 (mj_p0 M m 47 a) m 47 b).1, M.2) = ((mj_p0 M m 47 b).1, M.2)
  rw [e]
/-- a YEAR as it begins -/
def ye_fr (H : Nat → Int) : ye_T := (ye_z0 H, fun _ => 0, fun _ => 0, fun _ => 0, ye_zR H)
def ye_H2 (H : Nat → Int) : Prop := ye_H H ∧ ∀ t : Nat, t < 8 → H 0 ≤ (t : Int) → H (7 + 9 * t) = 0
theorem ye_fr_ok (h : ye_H2 H) : ye_okT H (ye_fr H) ∧ (ye_fr H).1 222 = 0 := by
  obtain ⟨⟨h0, h1, h2, h3, hT, hw, hB, hd⟩, hz⟩ := h
  refine ⟨⟨⟨Int.le_refl 0, (by decide : (0 : Int) ≤ 12)⟩, Or.inl rfl, ⟨Int.le_refl 0, Int.le_refl 0⟩, h2, ⟨Int.le_refl 0, Int.le_refl 0⟩, ⟨Int.le_refl 0, Int.le_refl 0⟩, ⟨Int.le_refl 0, Int.le_refl 0⟩, ⟨Int.le_refl 0, Int.le_refl 0⟩, ⟨Int.le_refl 0, Int.le_refl 0⟩, ⟨Int.le_refl 0, Int.le_refl 0⟩, fun t ht => ?_, fun t ht hn w hw => ?_, fun j hj => ?_⟩, rfl⟩
  · have q7 := hT (7 + 9 * t) (by omega) (by omega)
    have q5 := hT (5 + 9 * t) (by omega) (by omega)
    have e : ∀ w, w ≠ 1 → (ye_fr H).2.2.2.2 t w = 0 := fun w hw => if_neg (fun q => hw q.1)
    have e1 : (ye_fr H).2.2.2.2 t 1 = H (7 + 9 * t) := by
      show (if (1 : Nat) = 1 ∧ t < 8 then H (7 + 9 * t) else 0) = H (7 + 9 * t)
      exact if_pos ⟨rfl, ht⟩
    have e2 : (ye_fr H).1 222 = 0 := rfl
    unfold ye_rk
    rw [e 0 (by decide), e1, e 2 (by decide), e 3 (by decide), e 4 (by decide), e 5 (by decide), e 6 (by decide), e 7 (by decide), e 8 (by decide), e 9 (by decide), e 10 (by decide), e2]
    omega
  · show (if w = 1 ∧ t < 8 then H (7 + 9 * t) else 0) = 0
    by_cases c : w = 1 ∧ t < 8
    · rw [if_pos c]; exact hz t ht hn
    · rw [if_neg c]
  · have e2 : (ye_fr H).1 222 = 0 := rfl
    rw [e2] at hj; omega
/-- what begins leaves -/
def rq_Z (s : Nat) (H : Nat → Int) (M M' : mj_M) : Prop := M'.2 = M.2 ∧ (∀ a, a ≠ s → M'.1 a = M.1 a) ∧ (∀ j, j < 221 ∨ (356 ≤ j ∧ j < 537) → M'.1 s j = M.1 s j) ∧ M'.1 s 221 = 1 ∧ (∀ j, 222 ≤ j → j < 232 → M'.1 s j = ye_z0 H j) ∧ (∀ j, j < 12 → M'.1 s (320 + 3 * j) = 0 ∧ M'.1 s (321 + 3 * j) = 0 ∧ M'.1 s (322 + 3 * j) = 0) ∧ (∀ t w, t < 8 → w < 11 → M'.1 s (232 + 11 * t + w) = ye_zR H t w)
theorem rq_Z.T (h : rq_Z s H M M') : yq_T s m M' (ye_fr H) M' := by
  obtain ⟨-, -, -, -, h5, h6, h7⟩ := h
  exact ⟨_, _, _, rfl, fun _ _ _ => rfl, fun _ _ _ _ => rfl, ⟨rfl, rfl, rfl⟩, fun _ _ => rfl, h5, h6, h7⟩
/-- what a whole YEAR leaves -/
def rq_Y (s m : Nat) (st : ye_T) (M M' : mj_M) : Prop := M'.2 = M.2 ∧ (∀ a, a ≠ s → a ≠ m → M'.1 a = M.1 a) ∧ (∀ k, k ≠ 29 → k ≠ 30 → k ≠ 31 → k ≠ 47 → M'.1 m k = M.1 m k) ∧ (∀ j, j < 221 ∨ (356 ≤ j ∧ j < 537) → M'.1 s j = M.1 s j) ∧ M'.1 s 221 = 1 ∧ (∀ j, 222 ≤ j → j < 232 → M'.1 s j = st.1 j) ∧ (∀ j, j < 12 → M'.1 s (320 + 3 * j) = st.2.1 j ∧ M'.1 s (321 + 3 * j) = st.2.2.1 j ∧ M'.1 s (322 + 3 * j) = st.2.2.2.1 j) ∧ (∀ t w, t < 8 → w < 11 → M'.1 s (232 + 11 * t + w) = st.2.2.2.2 t w)
end YI
theorem r_bg1 {G : mj_G} {M0 : mj_M} {s m : Nat} {H : Nat → Int} {Q : mj_P} {d : Nat} (gm : G m = (1012, 0)) (gs : G s = (51100, 537)) (m6 : M0.2.2 m 6 = some s) (hH : ∀ j, j < 221 → M0.1 s j = H j) : ∀ (n : Nat) (i : Int) (SF : Nat → Int) (M : mj_M) (cb sb : Nat), i + n = 356 → 221 ≤ i → tk_R s M0 SF M → (∀ k : Nat, k < 537 → (k < 221 ∨ i ≤ (k : Int) → SF k = M0.1 s k) ∧ (221 ≤ k ∧ (k : Int) < i → SF k = 0)) → (∀ SF M, tk_R s M0 SF M → (∀ k, k < 537 → (k < 221 ∨ 356 ≤ k → SF k = M0.1 s k) ∧ (221 ≤ k ∧ k < 356 → SF k = 0)) → wz (d + 1) mt_X12_begins.2.2.2.2.1 Q (mt_X12_begins.2.2.2.2.1.drop 12) [some (.inr (.inr (some m))), some (.inl 356)] [] G M cb sb) → wz (d + 1) mt_X12_begins.2.2.2.2.1 Q (mt_X12_begins.2.2.2.2.1.drop 2) [some (.inr (.inr (some m))), some (.inl i)] [] G M cb sb := by
  intro n
  induction n with
  | zero =>
    intro i SF M cb sb e i0 hC hz h
    obtain rfl : i = 356 := by omega
    refine w_iln rfl ?_
    refine w_sp ?_
    refine w_cmge (fun c1 => ?_) (fun c1 => ?_)
    · skip
      exact h SF _ hC (fun k hk => ⟨fun q => (hz k hk).1 (by omega), fun q => (hz k hk).2 (by omega)⟩)
    · exfalso; omega
  | succ n ih =>
    intro i SF M cb sb e i0 hC hz h
    refine w_iln rfl ?_
    refine w_sp ?_
    refine w_cmge (fun c1 => ?_) (fun c1 => ?_)
    · exfalso; omega
    · skip
      refine w_aln rfl ?_
      refine w_gr gm rfl (by decide) rfl (hC.r (m6)) ?_
      refine w_iln rfl ?_
      refine w_ic ?_
      refine w_iast gs rfl (by decide) (by show (0 : Int) ≤ i; omega) (by show i < ((537 : Nat) : Int); omega) ?_
      have hC2 := hC.hW (j := i.toNat) (z := 0) rfl
      refine w_ii rfl ⟨by show (-2147483648 : Int) ≤ i + 1; omega, by show i + 1 < (2147483648 : Int); omega⟩ ?_
      show wz _ _ _ _ [some (.inr (.inr (some m))), some (.inl (i + 1))] _ _ _ _ _
      refine w_goto ?_
      refine ih (i + 1) _ _ _ _ (by omega) (by omega) hC2 (fun k hk => ?_) h
      by_cases e9 : k = i.toNat
      · exact ⟨fun q => by omega, fun _ => by rw [e9]; exact rv_up_s⟩
      · rw [rv_up_n e9]; exact ⟨fun q => (hz k hk).1 (by omega), fun q => (hz k hk).2 (by omega)⟩
theorem r_bg2 {G : mj_G} {M0 : mj_M} {s m : Nat} {H : Nat → Int} {Q : mj_P} {d : Nat} (gm : G m = (1012, 0)) (gs : G s = (51100, 537)) (m6 : M0.2.2 m 6 = some s) (hH : ∀ j, j < 221 → M0.1 s j = H j) (h0 : 0 ≤ H 0 ∧ H 0 ≤ 8) : ∀ (n : Nat) (i : Int) (SF : Nat → Int) (M : mj_M) (cb sb : Nat), i + n = H 0 → 0 ≤ i → tk_R s M0 SF M → (∀ k, k < 537 → (k < 221 ∨ 356 ≤ k → SF k = M0.1 s k)) → SF 221 = 1 → (∀ j, 222 ≤ j → j < 232 → SF j = ye_z0 H j) → (∀ j, j < 36 → SF (320 + j) = 0) → (∀ t w, t < 8 → w < 11 → SF (232 + 11 * t + w) = if w = 1 ∧ (t : Int) < i then H (7 + 9 * t) else 0) → (∀ SF M, tk_R s M0 SF M → (∀ k, k < 537 → (k < 221 ∨ 356 ≤ k → SF k = M0.1 s k)) → SF 221 = 1 → (∀ j, 222 ≤ j → j < 232 → SF j = ye_z0 H j) → (∀ j, j < 36 → SF (320 + j) = 0) → (∀ t w, t < 8 → w < 11 → SF (232 + 11 * t + w) = if w = 1 ∧ (t : Int) < H 0 then H (7 + 9 * t) else 0) → Q none G M) → wz (d + 1) mt_X12_begins.2.2.2.2.1 Q (mt_X12_begins.2.2.2.2.1.drop 32) [some (.inr (.inr (some m))), some (.inl i)] [] G M cb sb := by
  intro n
  induction n with
  | zero =>
    intro i SF M cb sb e i0 hC z1 z2 z3 z4 z5 h
    obtain rfl : i = H 0 := by omega
    have rd : ∀ {j k : Nat}, k < 221 → j = k → M.1 s j = H k := fun {j k} hk e => by rw [e]; exact (hC.2.2 k (by omega)).trans ((z1 k (by omega) (Or.inl hk)).trans (hH k hk))
    refine w_iln rfl ?_
    refine w_aln rfl ?_
    refine w_gr gm rfl (by decide) rfl (hC.r (m6)) ?_
    refine w_ic ?_
    refine w_iald (v := (H 0)) gs rfl (by show (0 : Int) ≤ 0; omega) (by show 0 < ((537 : Nat) : Int); omega) (rd (show 0 < 221 by omega) (show (0 : Int).toNat = 0 by omega)) ?_
    refine w_cmge (fun c1 => ?_) (fun c1 => ?_)
    · skip
      exact w_ret (h SF _ hC z1 z2 z3 z4 z5)
    · exfalso; omega
  | succ n ih =>
    intro i SF M cb sb e i0 hC z1 z2 z3 z4 z5 h
    have rd : ∀ {j k : Nat}, k < 221 → j = k → M.1 s j = H k := fun {j k} hk e => by rw [e]; exact (hC.2.2 k (by omega)).trans ((z1 k (by omega) (Or.inl hk)).trans (hH k hk))
    refine w_iln rfl ?_
    refine w_aln rfl ?_
    refine w_gr gm rfl (by decide) rfl (hC.r (m6)) ?_
    refine w_ic ?_
    refine w_iald (v := (H 0)) gs rfl (by show (0 : Int) ≤ 0; omega) (by show 0 < ((537 : Nat) : Int); omega) (rd (show 0 < 221 by omega) (show (0 : Int).toNat = 0 by omega)) ?_
    refine w_cmge (fun c1 => ?_) (fun c1 => ?_)
    · exfalso; omega
    · skip
      refine w_aln rfl ?_
      refine w_gr gm rfl (by decide) rfl (hC.r (m6)) ?_
      refine w_sp ?_
      refine w_bp ?_
      refine w_iln rfl ?_
      refine w_mul ⟨by show (-2147483648 : Int) ≤ 11 * i; omega, by show 11 * i < (2147483648 : Int); omega⟩ ?_
      refine w_add ⟨by show (-2147483648 : Int) ≤ 232 + (11 * i); omega, by show 232 + (11 * i) < (2147483648 : Int); omega⟩ ?_
      refine w_ic ?_
      refine w_add ⟨by show (-2147483648 : Int) ≤ (232 + (11 * i)) + 1; omega, by show (232 + (11 * i)) + 1 < (2147483648 : Int); omega⟩ ?_
      refine w_aln rfl ?_
      refine w_iln rfl ?_
      refine w_ic ?_
      refine w_cv (st := [.inl ((232 + (11 * i)) + 1), .inr (.inr (some s))]) rfl gm rfl (Nat.le_of_ble_eq_true rfl) (fun kk h => h) ⟨Nat.le_of_ble_eq_true rfl, ?_⟩
      show wz (d) mt_X12_toldOf.2.2.2.2.1 _ mt_X12_toldOf.2.2.2.2.1 [some (.inr (.inr (some m))), some (.inl i), some (.inl 3)] [] _ _ _ _
      refine w_aln rfl ?_
      refine w_gr gm rfl (by decide) rfl (hC.r (m6)) ?_
      refine w_ic ?_
      refine w_bp ?_
      refine w_iln rfl ?_
      refine w_mul ⟨by show (-2147483648 : Int) ≤ 9 * i; omega, by show 9 * i < (2147483648 : Int); omega⟩ ?_
      refine w_add ⟨by show (-2147483648 : Int) ≤ 4 + (9 * i); omega, by show 4 + (9 * i) < (2147483648 : Int); omega⟩ ?_
      refine w_iln rfl ?_
      refine w_add ⟨by show (-2147483648 : Int) ≤ (4 + (9 * i)) + 3; omega, by show (4 + (9 * i)) + 3 < (2147483648 : Int); omega⟩ ?_
      refine w_iald (v := (H (7 + 9 * i.toNat))) gs rfl (by show (0 : Int) ≤ (4 + (9 * i)) + 3; omega) (by show (4 + (9 * i)) + 3 < ((537 : Nat) : Int); omega) (rd (show 7 + 9 * i.toNat < 221 by omega) (show ((4 + (9 * i)) + 3).toNat = 7 + 9 * i.toNat by omega)) ?_
      refine w_iret (fun q => by cases q) ?_
      refine w_iast gs rfl (by decide) (by show (0 : Int) ≤ (232 + (11 * i)) + 1; omega) (by show (232 + (11 * i)) + 1 < ((537 : Nat) : Int); omega) ?_
      have hC2 := hC.hW (j := ((232 + (11 * i)) + 1).toNat) (z := (H (7 + 9 * i.toNat))) rfl
      refine w_ii rfl ⟨by show (-2147483648 : Int) ≤ i + 1; omega, by show i + 1 < (2147483648 : Int); omega⟩ ?_
      show wz _ _ _ _ [some (.inr (.inr (some m))), some (.inl (i + 1))] _ _ _ _ _
      refine w_goto ?_
      refine ih (i + 1) _ _ _ _ (by omega) (by omega) hC2 (fun k hk q => (rv_up_n (by omega)).trans (z1 k hk q)) ((rv_up_n (by omega)).trans z2) (fun j j1 j2 => (rv_up_n (by omega)).trans (z3 j j1 j2)) (fun j hj => (rv_up_n (by omega)).trans (z4 j hj)) (fun t w ht hw => ?_) h
      by_cases e9 : w = 1 ∧ t = i.toNat
      · obtain ⟨rfl, rfl⟩ := e9
        rw [if_pos ⟨rfl, by omega⟩]
        exact tk_up (by omega)
      · refine (rv_up_n (by omega)).trans ((z5 t w ht hw).trans ?_)
        by_cases e8 : w = 1 ∧ (t : Int) < i
        · rw [if_pos e8, if_pos ⟨e8.1, by omega⟩]
        · rw [if_neg e8, if_neg (fun q => e8 ⟨q.1, by omega⟩)]
theorem r_X12_beginsC {G : mj_G} {M0 : mj_M} {s m : Nat} {H : Nat → Int} {Q : mj_P} {d : Nat} (gm : G m = (1012, 0)) (gs : G s = (51100, 537)) (m6 : M0.2.2 m 6 = some s) (hH : ∀ j, j < 221 → M0.1 s j = H j) (h0 : 0 ≤ H 0 ∧ H 0 ≤ 8) (hz : ∀ t : Nat, t < 8 → H 0 ≤ (t : Int) → H (7 + 9 * t) = 0) (h : ∀ M, rq_Z s H M0 M → Q none G M) : mj_R mj_tab (d + 2) 163 [.inr (.inr (some m))] G M0 Q := by
  refine ⟨Nat.le_of_ble_eq_true rfl, ?_⟩
  show wz (d + 1) mt_X12_begins.2.2.2.2.1 _ mt_X12_begins.2.2.2.2.1 [some (.inr (.inr (some m))), none] [] G M0 _ _
  refine w_sp ?_
  refine w_isn ?_
  show wz _ _ _ _ [some (.inr (.inr (some m))), some (.inl 221)] _ _ _ _ _
  refine r_bg1 (d := d) gm gs m6 hH 135 221 (M0.1 s) M0 _ _ (by decide) (by decide) ⟨rfl, fun _ _ => rfl, fun _ _ => rfl⟩ (fun k hk => ⟨fun _ => rfl, fun q => by omega⟩) (fun SF M hC hz1 => ?_)
  have rd : ∀ {j k : Nat}, k < 221 → j = k → M.1 s j = H k := fun {j k} hk e => by rw [e]; exact (hC.2.2 k (by omega)).trans (((hz1 k (by omega)).1 (Or.inl hk)).trans (hH k hk))
  refine w_aln rfl ?_
  refine w_gr gm rfl (by decide) rfl (hC.r (m6)) ?_
  refine w_sp ?_
  refine w_ic ?_
  refine w_iast gs rfl (by decide) (by show (0 : Int) ≤ 221; omega) (by show 221 < ((537 : Nat) : Int); omega) ?_
  have hC1 := hC.hW (j := (221 : Int).toNat) (z := 1) rfl
  refine w_aln rfl ?_
  refine w_gr gm rfl (by decide) rfl (hC1.r (m6)) ?_
  refine w_sp ?_
  refine w_bp ?_
  refine w_iast gs rfl (by decide) (by show (0 : Int) ≤ 223; omega) (by show 223 < ((537 : Nat) : Int); omega) ?_
  have hC2 := hC1.hW (j := (223 : Int).toNat) (z := 8) rfl
  refine w_aln rfl ?_
  refine w_gr gm rfl (by decide) rfl (hC2.r (m6)) ?_
  refine w_sp ?_
  refine w_aln rfl ?_
  refine w_gr gm rfl (by decide) rfl (hC2.r (m6)) ?_
  refine w_ic ?_
  refine w_iald (v := (H 2)) gs rfl (by show (0 : Int) ≤ 2; omega) (by show 2 < ((537 : Nat) : Int); omega) ((hn_n (Or.inr (by omega))).trans ((hn_n (Or.inr (by omega))).trans (rd (show 2 < 221 by omega) (show (2 : Int).toNat = 2 by omega)))) ?_
  refine w_iast gs rfl (by decide) (by show (0 : Int) ≤ 225; omega) (by show 225 < ((537 : Nat) : Int); omega) ?_
  have hC3 := hC2.hW (j := (225 : Int).toNat) (z := (H 2)) rfl
  refine w_ic ?_
  refine w_isn ?_
  show wz _ _ _ _ [some (.inr (.inr (some m))), some (.inl 0)] _ _ _ _ _
  refine r_bg2 (d := d) gm gs m6 hH h0 (H 0).toNat 0 _ _ _ _ (by omega) (by decide) hC3 (fun k hk q => ?_) ?_ ?_ (fun j hj => ?_) (fun t w ht hw => ?_) (fun SF9 M9 hC9 y1 y2 y3 y4 y5 => h M9 ⟨hC9.1, hC9.2.1, fun j hj => (hC9.2.2 j (by omega)).trans (y1 j (by omega) (by omega)), (hC9.2.2 221 (by decide)).trans y2, fun j j1 j2 => (hC9.2.2 j (by omega)).trans (y3 j j1 j2), fun j hj => ⟨(hC9.2.2 _ (by omega)).trans (y4 (3 * j) (by omega)), ?_, ?_⟩, fun t w ht hw => ?_⟩)
  · exact (rv_up_n (by omega)).trans ((rv_up_n (by omega)).trans ((rv_up_n (by omega)).trans ((hz1 k hk).1 q)))
  · exact (rv_up_n (by decide)).trans ((rv_up_n (by decide)).trans rv_up_s)
  · refine ye_10 ?_ ?_ ?_ ?_ ?_ ?_ ?_ ?_ ?_ ?_
    · exact (rv_up_n (by decide)).trans ((rv_up_n (by decide)).trans ((rv_up_n (by decide)).trans ((hz1 222 (by decide)).2 (by decide))))
    · exact (rv_up_n (by decide)).trans rv_up_s
    · exact (rv_up_n (by decide)).trans ((rv_up_n (by decide)).trans ((rv_up_n (by decide)).trans ((hz1 224 (by decide)).2 (by decide))))
    · exact rv_up_s
    · exact (rv_up_n (by decide)).trans ((rv_up_n (by decide)).trans ((rv_up_n (by decide)).trans ((hz1 226 (by decide)).2 (by decide))))
    · exact (rv_up_n (by decide)).trans ((rv_up_n (by decide)).trans ((rv_up_n (by decide)).trans ((hz1 227 (by decide)).2 (by decide))))
    · exact (rv_up_n (by decide)).trans ((rv_up_n (by decide)).trans ((rv_up_n (by decide)).trans ((hz1 228 (by decide)).2 (by decide))))
    · exact (rv_up_n (by decide)).trans ((rv_up_n (by decide)).trans ((rv_up_n (by decide)).trans ((hz1 229 (by decide)).2 (by decide))))
    · exact (rv_up_n (by decide)).trans ((rv_up_n (by decide)).trans ((rv_up_n (by decide)).trans ((hz1 230 (by decide)).2 (by decide))))
    · exact (rv_up_n (by decide)).trans ((rv_up_n (by decide)).trans ((rv_up_n (by decide)).trans ((hz1 231 (by decide)).2 (by decide))))
  · exact (rv_up_n (by omega)).trans ((rv_up_n (by omega)).trans ((rv_up_n (by omega)).trans ((hz1 _ (by omega)).2 (by omega))))
  · rw [if_neg (by omega)]; exact (rv_up_n (by omega)).trans ((rv_up_n (by omega)).trans ((rv_up_n (by omega)).trans ((hz1 _ (by omega)).2 (by omega))))
  · have q := y4 (1 + 3 * j) (by omega); rw [show 320 + (1 + 3 * j) = 321 + 3 * j by omega] at q; exact (hC9.2.2 _ (by omega)).trans q
  · have q := y4 (2 + 3 * j) (by omega); rw [show 320 + (2 + 3 * j) = 322 + 3 * j by omega] at q; exact (hC9.2.2 _ (by omega)).trans q
  · refine (hC9.2.2 _ (by omega)).trans ((y5 t w ht hw).trans ?_)
    unfold ye_zR
    by_cases c : w = 1
    · by_cases c2 : (t : Int) < H 0
      · rw [if_pos ⟨c, c2⟩, if_pos ⟨c, ht⟩]
      · rw [if_neg (fun q => c2 q.2), if_pos ⟨c, ht⟩]; exact (hz t ht (by omega)).symm
    · rw [if_neg (fun q => c q.1), if_neg (fun q => c q.1)]
theorem r_monthT {G : mj_G} {M M0 : mj_M} {s m : Nat} {H : Nat → Int} {st : ye_T} {x : Int} {Q : mj_P} {d : Nat} (hL : yq_L G M0 s m H) (hT : yq_T s m M0 st M) (hH : ye_H H) (hk : ye_okT H st) (hm : st.1 222 ≤ 11) (hx : 0 ≤ x ∧ x ≤ 99) (h : ∀ M, yq_T s m M0 (ye_mo H x st) M → Q none G M) : mj_R mj_tab (d + 4) 213 [.inr (.inr (some m)), .inl x] G M Q := by
  obtain ⟨L, O, P, hC⟩ := hT
  refine r_X12_month (mi := st.1 222) hL hC rfl ⟨hk.1.1, hm⟩ hH hk hx (fun L1 O1 P1 M1 e hC1 => h M1 ⟨L1, O1, P1, ?_⟩)
  have e1 : L1 = (ye_le H st.2.2.2.2 (st.1 222).toNat).1 := congrArg Prod.fst e
  have e2 : O1 = (ye_le H st.2.2.2.2 (st.1 222).toNat).2.1 := congrArg (fun q => q.2.1) e
  have e3 : P1 = (ye_le H st.2.2.2.2 (st.1 222).toNat).2.2 := congrArg (fun q => q.2.2) e
  show yq_S s m M0 _ (rv_up st.2.1 _ _) (rv_up st.2.2.1 _ _) (rv_up st.2.2.2.1 _ _) _ L1 O1 P1 M1
  rw [← e1, ← e2, ← e3]
  exact hC1
/-- the seed goes on; a draw of 100 -/
def ye_s1 (x : Int) : Int := (Int32.ofInt (Int32.ofInt x * Int32.ofInt 1103515245).toInt + Int32.ofInt 12345).toInt
def ye_sd (x : Int) : Nat → Int
  | 0 => x
  | k + 1 => ye_s1 (ye_sd x k)
theorem ye_sd_s {x : Int} {k : Nat} : ye_sd x (k + 1) = ye_s1 (ye_sd x k) := rfl
def ye_dr (x : Int) : Int := (Int32.ofInt (rv_s7 x 8) - Int32.ofInt (rv_s7 x 8) / Int32.ofInt 100 * Int32.ofInt 100).toInt
def ye_xs (x : Int) (k : Nat) : Int := ye_dr (ye_sd x (k + 1))
theorem ye_s7_b (x : Int) : 0 ≤ rv_s7 x 8 ∧ rv_s7 x 8 < 16777216 := by
  have h := pk_ushr (Int32.ofInt x) (Int32.ofInt 8) 8 (by decide)
  have hb : (Int32.ofInt x).toBitVec.toNat / 2 ^ 8 < 16777216 := by
    have := (Int32.ofInt x).toBitVec.isLt
    omega
  unfold rv_s7
  have e : (((Int32.ofInt x).toUInt32 >>> ((Int32.ofInt 8).toUInt32 &&& Int32.toUInt32 31)).toInt32).toInt = ((((Int32.ofInt x).toUInt32 >>> ((Int32.ofInt 8).toUInt32 &&& Int32.toUInt32 31)).toInt32).toBitVec.toNat : Int) := by
    show (((Int32.ofInt x).toUInt32 >>> ((Int32.ofInt 8).toUInt32 &&& Int32.toUInt32 31)).toInt32).toBitVec.toInt = _
    rw [BitVec.toInt_eq_toNat_of_lt (by rw [h]; omega)]
  rw [e, h]
  omega
theorem ye_dr_b (x : Int) : 0 ≤ ye_dr x ∧ ye_dr x ≤ 99 := by
  have b := ye_s7_b x
  have h := cs_irem (x := rv_s7 x 8) (t := 100) (z := ye_dr x) b.1 (by decide) ⟨by omega, by omega⟩ ⟨by decide, by decide⟩ rfl
  have e : ((100 : Int).toNat) = 100 := rfl
  rw [e] at h
  omega
section YT
variable {G : mj_G} {M M0 : mj_M} {s m : Nat} {H : Nat → Int} {st : ye_T} {z : Int} {a b k : Nat}
theorem yq_T.rf (h : yq_T s m M0 st M) (e : M0.2.2 a k = some b) : M.2.2 a k = some b := by
  obtain ⟨L, O, P, hC⟩ := h; exact hC.vr e
theorem yq_T.rb (h : yq_T s m M0 st M) (hL : yq_L G M0 s m H) : yq_T s m (mj_p0 M0 m 47 z) st (mj_p0 M m 47 z) := by
  obtain ⟨L, O, P, hC⟩ := h; exact ⟨L, O, P, hC.rb hL⟩
theorem yq_T.sd (h : yq_T s m (mj_p0 M0 m 47 z) st M) : M.1 m 47 = z := by
  obtain ⟨L, O, P, hC⟩ := h; exact (hC.2.2.1 47 (by decide) (by decide) (by decide)).trans hn_s
end YT
theorem r_wy0 {G : mj_G} {M0 : mj_M} {s m : Nat} {H : Nat → Int} {Q : mj_P} {d : Nat} (hL : yq_L G M0 s m H) (hH : ye_H2 H) : ∀ (n : Nat) (i : Int) (M : mj_M) (cb sb : Nat), i + n = 12 → 0 ≤ i → yq_T s m M0 (ye_it H (fun _ => 0) (ye_fr H) i.toNat) M → (∀ M, yq_T s m M0 (ye_it H (fun _ => 0) (ye_fr H) 12) M → Q none G M) → wz (d + 4) mt_X12_wholeYear.2.2.2.2.1 Q (mt_X12_wholeYear.2.2.2.2.1.drop 4) [some (.inr (.inr (some m))), some (.inl 0), some (.inl i)] [] G M cb sb := by
  have hf := ye_fr_ok hH
  intro n
  induction n with
  | zero =>
    intro i M cb sb e i0 hT h
    obtain rfl : i = 12 := by omega
    refine w_iln rfl ?_
    refine w_bp ?_
    refine w_cmge (fun c1 => ?_) (fun c1 => ?_)
    · skip
      exact w_ret (h _ hT)
    · exfalso; omega
  | succ n ih =>
    intro i M cb sb e i0 hT h
    have hok := ye_it_ok hH.1 hf.1 (xs := (fun _ => 0)) (fun _ => ⟨Int.le_refl 0, by decide⟩) i.toNat (by rw [hf.2]; omega)
    have h22 : (ye_it H (fun _ => 0) (ye_fr H) i.toNat).1 222 ≤ 11 := by rw [hok.2, hf.2]; omega
    have et : (i + 1).toNat = i.toNat + 1 := by omega
    refine w_iln rfl ?_
    refine w_bp ?_
    refine w_cmge (fun c1 => ?_) (fun c1 => ?_)
    · exfalso; omega
    · skip
      refine w_aln rfl ?_
      refine w_iln rfl ?_
      refine w_ifeq (fun c2 => ?_) (fun c2 => ?_)
      · skip
        refine w_ic ?_
        refine w_cv (st := []) rfl hL.gm rfl (Nat.le_of_ble_eq_true rfl) (fun kk h => h) (r_monthT (d := d) hL hT hH.1 hok.1 h22 ⟨Int.le_refl 0, by decide⟩ (fun M1 hT1 => ?_))
        refine w_ii rfl ⟨by show (-2147483648 : Int) ≤ i + 1; omega, by show i + 1 < (2147483648 : Int); omega⟩ ?_
        show wz _ _ _ _ [some (.inr (.inr (some m))), some (.inl 0), some (.inl (i + 1))] _ _ _ _ _
        refine w_goto ?_
        exact ih (i + 1) _ _ _ (by omega) (by omega) (by rw [et]; exact hT1) h
      · exfalso; omega
theorem r_X12_wholeYear0 {G : mj_G} {M0 : mj_M} {s m : Nat} {H : Nat → Int} {Q : mj_P} {d : Nat} (hL : yq_L G M0 s m H) (hH : ye_H2 H) (h : ∀ M, rq_Y s m (ye_it H (fun _ => 0) (ye_fr H) 12) M0 M → Q none G M) : mj_R mj_tab (d + 5) 258 [.inr (.inr (some m)), .inl 0] G M0 Q := by
  refine ⟨Nat.le_of_ble_eq_true rfl, ?_⟩
  show wz (d + 4) mt_X12_wholeYear.2.2.2.2.1 _ mt_X12_wholeYear.2.2.2.2.1 [some (.inr (.inr (some m))), some (.inl 0), none] [] G M0 _ _
  refine w_aln rfl ?_
  refine w_cv (st := []) rfl hL.gm rfl (Nat.le_of_ble_eq_true rfl) (fun kk h => h) (r_X12_beginsC (d := d + 2) hL.gm hL.gs hL.m6 (fun j hj => hL.vn hj) hH.1.1 hH.2 (fun M1 hZ => ?_))
  have hT1 : yq_T s m M1 (ye_fr H) M1 := hZ.T
  obtain ⟨z1, z2, z3, z4, -⟩ := hZ
  have em : M1.1 m = M0.1 m := z2 m (fun q => hL.sm q.symm)
  have hL1 : yq_L G M1 s m H := ⟨hL.gm, hL.gs, by rw [z1]; exact hL.m6, fun j hj => (z3 j (Or.inl hj)).trans (hL.vn hj), by rw [em]; exact hL.lk⟩
  refine w_ic ?_
  refine w_isn ?_
  show wz _ _ _ _ [some (.inr (.inr (some m))), some (.inl 0), some (.inl 0)] _ _ _ _ _
  refine r_wy0 (d := d) hL1 hH 12 0 _ _ _ (by decide) (by decide) hT1 (fun M2 hT2 => h M2 ?_)
  obtain ⟨L, O, P, c1, c2, c3, -, c5, c6, c7, c8⟩ := hT2
  exact ⟨c1.trans z1, fun a a1 a2 => (c2 a a1 a2).trans (z2 a a1), fun k k1 k2 k3 _ => (c3 k k1 k2 k3).trans (by rw [em]), fun j hj => (c5 j (by omega)).trans (z3 j hj), (c5 221 (by decide)).trans z4, c6, c7, c8⟩
  
theorem r_wy1 {G : mj_G} {M0 : mj_M} {s m : Nat} {H : Nat → Int} {z : Int} {Q : mj_P} {d : Nat} (hL : yq_L G M0 s m H) (hH : ye_H2 H) : ∀ (n : Nat) (i : Int) (M : mj_M) (cb sb : Nat), i + n = 12 → 0 ≤ i → yq_T s m (mj_p0 M0 m 47 (ye_sd z i.toNat)) (ye_it H (ye_xs z) (ye_fr H) i.toNat) M → (∀ M, yq_T s m (mj_p0 M0 m 47 (ye_sd z 12)) (ye_it H (ye_xs z) (ye_fr H) 12) M → Q none G M) → wz (d + 4) mt_X12_wholeYear.2.2.2.2.1 Q (mt_X12_wholeYear.2.2.2.2.1.drop 4) [some (.inr (.inr (some m))), some (.inl 1), some (.inl i)] [] G M cb sb := by
  have hf := ye_fr_ok hH
  intro n
  induction n with
  | zero =>
    intro i M cb sb e i0 hT h
    obtain rfl : i = 12 := by omega
    refine w_iln rfl ?_
    refine w_bp ?_
    refine w_cmge (fun c1 => ?_) (fun c1 => ?_)
    · skip
      exact w_ret (h _ hT)
    · exfalso; omega
  | succ n ih =>
    intro i M cb sb e i0 hT h
    have hok := ye_it_ok hH.1 hf.1 (xs := (ye_xs z)) (fun k => ye_dr_b _) i.toNat (by rw [hf.2]; omega)
    have h22 : (ye_it H (ye_xs z) (ye_fr H) i.toNat).1 222 ≤ 11 := by rw [hok.2, hf.2]; omega
    have et : (i + 1).toNat = i.toNat + 1 := by omega
    refine w_iln rfl ?_
    refine w_bp ?_
    refine w_cmge (fun c1 => ?_) (fun c1 => ?_)
    · exfalso; omega
    · skip
      refine w_aln rfl ?_
      refine w_iln rfl ?_
      refine w_ifeq (fun c2 => ?_) (fun c2 => ?_)
      · exfalso; omega
      · skip
        refine w_aln rfl ?_
        refine w_bp ?_
        refine w_cv (st := [.inr (.inr (some m))]) rfl hL.gm rfl (Nat.le_of_ble_eq_true rfl) (fun kk h => h) ⟨Nat.le_of_ble_eq_true rfl, ?_⟩
        show wz (d + 3) mt_X12_draw.2.2.2.2.1 _ mt_X12_draw.2.2.2.2.1 [some (.inr (.inr (some m))), some (.inl 100)] [] _ _ _ _
        refine w_aln rfl ?_
        refine w_aln rfl ?_
        refine w_gi hL.gm rfl (by decide) rfl hT.sd ?_
        refine w_ldcw ?_
        refine w_mulw ?_
        intro z1 hz1 ez1
        refine w_sp ?_
        refine w_addw ?_
        intro z2 hz2 ez2
        have e2 : z2 = ye_sd z (i.toNat + 1) := by
          rw [ez2, ez1, ye_sd_s]
          unfold ye_s1
          rfl
        rw [e2]
        refine w_pi hL.gm rfl (by decide) rfl (fun q => by cases q) ?_
        refine w_aln rfl ?_
        refine w_gi hL.gm rfl (by decide) rfl hn_s ?_
        refine w_bp ?_
        refine w_ushr ?_
        intro z3 hz3 ez3
        refine w_iln rfl ?_
        refine w_rem (by decide) ?_
        intro z4 hz4 ez4
        have e4 : z4 = ye_xs z i.toNat := by rw [ez4, ez3]; rfl
        rw [e4]
        refine w_iret (fun q => by cases q) ?_
        refine w_goto ?_
        have hT9 := hT.rb (z := ye_sd z (i.toNat + 1)) hL.sd
        rw [mj_p47] at hT9
        refine w_cv (st := []) rfl hL.gm rfl (Nat.le_of_ble_eq_true rfl) (fun kk h => h) (r_monthT (d := d) hL.sd hT9 hH.1 hok.1 h22 (ye_dr_b _) (fun M1 hT1 => ?_))
        refine w_ii rfl ⟨by show (-2147483648 : Int) ≤ i + 1; omega, by show i + 1 < (2147483648 : Int); omega⟩ ?_
        show wz _ _ _ _ [some (.inr (.inr (some m))), some (.inl 1), some (.inl (i + 1))] _ _ _ _ _
        refine w_goto ?_
        exact ih (i + 1) _ _ _ (by omega) (by omega) (by rw [et]; exact hT1) h
theorem r_X12_wholeYear1 {G : mj_G} {M0 : mj_M} {s m : Nat} {H : Nat → Int} {z : Int} {Q : mj_P} {d : Nat} (hL : yq_L G M0 s m H) (hH : ye_H2 H) (hs : M0.1 m 47 = z) (h : ∀ M, rq_Y s m (ye_it H (ye_xs z) (ye_fr H) 12) M0 M → Q none G M) : mj_R mj_tab (d + 5) 258 [.inr (.inr (some m)), .inl 1] G M0 Q := by
  refine ⟨Nat.le_of_ble_eq_true rfl, ?_⟩
  show wz (d + 4) mt_X12_wholeYear.2.2.2.2.1 _ mt_X12_wholeYear.2.2.2.2.1 [some (.inr (.inr (some m))), some (.inl 1), none] [] G M0 _ _
  refine w_aln rfl ?_
  refine w_cv (st := []) rfl hL.gm rfl (Nat.le_of_ble_eq_true rfl) (fun kk h => h) (r_X12_beginsC (d := d + 2) hL.gm hL.gs hL.m6 (fun j hj => hL.vn hj) hH.1.1 hH.2 (fun M1 hZ => ?_))
  have hT1 : yq_T s m M1 (ye_fr H) M1 := hZ.T
  obtain ⟨z1, z2, z3, z4, -⟩ := hZ
  have em : M1.1 m = M0.1 m := z2 m (fun q => hL.sm q.symm)
  have hL1 : yq_L G M1 s m H := ⟨hL.gm, hL.gs, by rw [z1]; exact hL.m6, fun j hj => (z3 j (Or.inl hj)).trans (hL.vn hj), by rw [em]; exact hL.lk⟩
  refine w_ic ?_
  refine w_isn ?_
  show wz _ _ _ _ [some (.inr (.inr (some m))), some (.inl 1), some (.inl 0)] _ _ _ _ _
  have hT0 := hT1.rb (z := z) hL1
  have e47 : mj_p0 M1 m 47 z = M1 := by
    have e : (mj_p0 M1 m 47 z).1 = M1.1 := funext fun x => funext fun j => by
      show (if x = m ∧ j = 47 then z else M1.1 x j) = M1.1 x j
      by_cases c : x = m ∧ j = 47
      · rw [if_pos c, c.1, c.2, em, hs]
      · rw [if_neg c]
    show ((mj_p0 M1 m 47 z).1, M1.2) = M1
    rw [e]
  refine r_wy1 (d := d) hL1 hH 12 0 _ _ _ (by decide) (by decide) (by show yq_T s m (mj_p0 M1 m 47 z) _ M1; rw [e47]; exact hT1) (fun M2 hT2 => h M2 ?_)
  obtain ⟨L, O, P, c1, c2, c3, -, c5, c6, c7, c8⟩ := hT2
  have es : (mj_p0 M1 m 47 (ye_sd z 12)).1 s = M1.1 s := wz_c hL.sm
  rw [es] at c5
  exact ⟨c1.trans z1, fun a a1 a2 => (c2 a a1 a2).trans ((wz_c a2).trans (z2 a a1)), fun k k1 k2 k3 k4 => (c3 k k1 k2 k3).trans ((hn_n (Or.inr k4)).trans (by rw [em])), fun j hj => (c5 j (by omega)).trans (z3 j hj), (c5 221 (by decide)).trans z4, c6, c7, c8⟩
  
