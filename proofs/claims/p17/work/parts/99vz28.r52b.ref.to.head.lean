section
/-! ===== worth, must of the reference: the bids come back (laid by a program) ===== -/
theorem r_thinks {G : mj_G} {M : mj_M} {m dd : Nat} {Q : mj_P} (hd : ab_h cd_25 ≤ dd) (hI : ab_Inv G M) (gm : G m = (1012, 0)) (hQ : ∀ M', ab_Inv G M' → ab_frm (ab_w cd_25) G M M' → Q none G M') : mj_R mj_tab (dd + 1) 247 [.inr (.inr (some m))] G M Q := by
  refine ab_all_ok 223 (Nat.le_refl _) 28 (by decide) dd hd G M (0, hn_g [], 1, fun _ => some m) _ Q hn_Y0 (lw_RR gm (by decide) (by decide) (by decide)) (fun e he => by cases he) ⟨_, _, rfl, ⟨Nat.zero_lt_one, rfl⟩, rfl⟩ hI (fun r M' i f ⟨po, hpo, h⟩ => ?_)
  cases hpo with
  | head =>
    have hr : r = none := h.1
    rw [hr]; exact hQ M' i f
  | tail _ hpo => cases hpo
theorem r_forgets {G : mj_G} {M : mj_M} {m dd : Nat} {Q : mj_P} (hd : ab_h cd_22 ≤ dd) (hI : ab_Inv G M) (gm : G m = (1012, 0)) (hQ : ∀ M', ab_Inv G M' → ab_frm (ab_w cd_22) G M M' → Q none G M') : mj_R mj_tab (dd + 1) 189 [.inr (.inr (some m))] G M Q := by
  refine ab_all_ok 223 (Nat.le_refl _) 25 (by decide) dd hd G M (0, hn_g [], 1, fun _ => some m) _ Q hn_Y0 (lw_RR gm (by decide) (by decide) (by decide)) (fun e he => by cases he) ⟨_, _, rfl, ⟨Nat.zero_lt_one, rfl⟩, rfl⟩ hI (fun r M' i f ⟨po, hpo, h⟩ => ?_)
  cases hpo with
  | head =>
    have hr : r = none := h.1
    rw [hr]; exact hQ M' i f
  | tail _ hpo => cases hpo
theorem r_wholeYear {G : mj_G} {M : mj_M} {m dd : Nat} {z : Int} {Q : mj_P} (hd : ab_h cd_160 ≤ dd) (hI : ab_Inv G M) (gm : G m = (1012, 0)) (hz : 0 ≤ z ∧ z ≤ 1) (hQ : ∀ M', ab_Inv G M' → ab_frm (ab_w cd_160) G M M' → Q none G M') : mj_R mj_tab (dd + 1) 258 [.inr (.inr (some m)), .inl z] G M Q := by
  refine ab_all_ok 223 (Nat.le_refl _) 169 (by decide) dd hd G M (1, hn_g [z], 1, fun _ => some m) _ Q (hn_Y1 hz) (lw_RR gm (by decide) (by decide) (by decide)) (fun e he => by cases he) ⟨_, _, rfl, ⟨Nat.zero_lt_one, rfl⟩, _, _, rfl, ⟨_, rfl, hn_I (Nat.le_of_ble_eq_true rfl) rfl⟩, rfl⟩ hI (fun r M' i f ⟨po, hpo, h⟩ => ?_)
  cases hpo with
  | head =>
    have hr : r = none := h.1
    rw [hr]; exact hQ M' i f
  | tail _ hpo => cases hpo
theorem r_begins5 {G : mj_G} {M : mj_M} {m s dd : Nat} {Q : mj_P} (hd : ab_h cd_61 ≤ dd) (hI : ab_Inv G M) (gm : G m = (1012, 0)) (gs : G s = (51100, 537)) (m6 : M.2.2 m 6 = some s) (hQ : ∀ M', ab_Inv G M' → ab_frm (ab_w cd_61) G M M' → M'.1 s 222 = 0 → Q none G M') : mj_R mj_tab (dd + 1) 163 [.inr (.inr (some m))] G M Q := by
  refine ab_all_ok 223 (Nat.le_refl _) 68 (by decide) dd hd G M (1, hn_g [M.1 s 222], 2, lw_w2 m s) _ Q (hn_Y1 (show (0 : Int) ≤ M.1 s 222 ∧ M.1 s 222 ≤ 12 by have h := hI.1 s 222; rw [gs] at h; exact h)) ⟨rfl, fun i q e => by
    cases i with
    | zero => cases e; exact Or.inr (Or.inr (Or.inr ⟨by decide, by decide, by decide, m, rfl, gm⟩))
    | succ i => cases i with
      | zero => cases e; exact Or.inr (Or.inr (Or.inr ⟨by decide, by decide, by decide, s, rfl, gs⟩))
      | succ i => cases e⟩ (fun e he => by
    cases he with
    | head => exact ⟨Nat.le_of_ble_eq_true rfl, m, 6, rfl, rfl, by decide, Nat.le_of_ble_eq_true rfl, m6⟩
    | tail _ he => cases he with
      | head => exact ⟨Nat.le_of_ble_eq_true rfl, s, 222, rfl, rfl, by decide, hn_I (Nat.le_of_ble_eq_true rfl) rfl⟩
      | tail _ he => cases he) ⟨_, _, rfl, ⟨Nat.le_of_ble_eq_true rfl, rfl⟩, rfl⟩ hI (fun r M' i f ⟨po, hpo, h⟩ => ?_)
  cases hpo with
  | head =>
    have hr : r = none := h.1
    obtain ⟨a, ha, hx⟩ := h.2 _ (List.Mem.head _)
    cases ha
    rw [hr]; exact hQ M' i f hx
  | tail _ hpo => cases hpo
theorem r_month5 {G : mj_G} {M : mj_M} {m s dd : Nat} {z : Int} {Q : mj_P} (hd : ab_h cd_144 ≤ dd) (hI : ab_Inv G M) (gm : G m = (1012, 0)) (gs : G s = (51100, 537)) (m6 : M.2.2 m 6 = some s) (hz : -99 ≤ z ∧ z ≤ 99) (h2 : 0 ≤ M.1 s 222 ∧ M.1 s 222 ≤ 11) (hQ : ∀ M', ab_Inv G M' → ab_frm (ab_w cd_144) G M M' → M'.1 s 222 = M.1 s 222 + 1 → Q none G M') : mj_R mj_tab (dd + 1) 213 [.inr (.inr (some m)), .inl z] G M Q := by
  refine ab_all_ok 223 (Nat.le_refl _) 153 (by decide) dd hd G M (2, hn_g [z, M.1 s 222], 2, lw_w2 m s) _ Q (hn_Y2 hz h2) ⟨rfl, fun i q e => by
    cases i with
    | zero => cases e; exact Or.inr (Or.inr (Or.inr ⟨by decide, by decide, by decide, m, rfl, gm⟩))
    | succ i => cases i with
      | zero => cases e; exact Or.inr (Or.inr (Or.inr ⟨by decide, by decide, by decide, s, rfl, gs⟩))
      | succ i => cases e⟩ (fun e he => by
    cases he with
    | head => exact ⟨Nat.le_of_ble_eq_true rfl, m, 6, rfl, rfl, by decide, Nat.le_of_ble_eq_true rfl, m6⟩
    | tail _ he => cases he with
      | head => exact ⟨Nat.le_of_ble_eq_true rfl, s, 222, rfl, rfl, by decide, hn_I (Nat.le_of_ble_eq_true rfl) rfl⟩
      | tail _ he => cases he) ⟨_, _, rfl, ⟨Nat.le_of_ble_eq_true rfl, rfl⟩, _, _, rfl, ⟨_, rfl, hn_I (Nat.le_of_ble_eq_true rfl) rfl⟩, rfl⟩ hI (fun r M' i f ⟨po, hpo, h⟩ => ?_)
  cases hpo with
  | head =>
    have hr : r = none := h.1
    obtain ⟨a, ha, hx⟩ := h.2 _ (List.Mem.head _)
    cases ha
    rw [hr]; exact hQ M' i f hx
  | tail _ hpo => cases hpo
theorem ab_s_b : ∀ j, 88 ≤ j → j < 184 → ab_rg 51100 j = ab_ii := by
  intro j h1 h2
  have h : ∀ j : Fin 96, ab_rg 51100 (88 + j.val) = ab_ii := by decide +kernel
  have := h ⟨j - 88, by omega⟩
  rw [show 88 + (j - 88) = j by omega] at this
  exact this
/-- bids of s are as they were, but those from a to b -/
def lq_ke (s a b : Nat) (M M' : mj_M) : Prop := ∀ j, 88 ≤ j → j < 184 → ¬ (a ≤ j ∧ j < b) → M'.1 s j = M.1 s j
theorem lq_ke.fr {G : mj_G} {s a b : Nat} {M M' M'' : mj_M} {W : List (Nat × Nat × Nat)} (gs : G s = (51100, 537)) (h : lq_ke s a b M M') (f : ab_frm W G M' M'') (c : ∀ q ∈ W, ¬ (q.1 = 51100 ∧ q.2.1 < 184)) : lq_ke s a b M M'' := fun j h1 h2 h3 => (f s j (by
  rw [gs]; rintro ⟨r, hr, e1, e2, e3⟩; exact c r hr ⟨e1, by omega⟩)).1.trans (h j h1 h2 h3)
theorem hn_rr {G : mj_G} {M M' : mj_M} {W : List (Nat × Nat × Nat)} {a t n k : Nat} (ga : G a = (t, n)) (f : ab_frm W G M M') (c : ∀ q ∈ W, ¬ (q.1 = t ∧ q.2.1 ≤ k ∧ k ≤ q.2.2)) : M'.2.2 a k = M.2.2 a k := (f a k (by
  rw [ga]; rintro ⟨r, hr, e1, e2, e3⟩; exact c r hr ⟨e1, e2, e3⟩)).2
theorem hn_ri {G : mj_G} {M M' : mj_M} {W : List (Nat × Nat × Nat)} {a t n k : Nat} (ga : G a = (t, n)) (f : ab_frm W G M M') (c : ∀ q ∈ W, ¬ (q.1 = t ∧ q.2.1 ≤ k ∧ k ≤ q.2.2)) : M'.1 a k = M.1 a k := (f a k (by
  rw [ga]; rintro ⟨r, hr, e1, e2, e3⟩; exact c r hr ⟨e1, e2, e3⟩)).1
theorem r_wo1 {G : mj_G} {M0 : mj_M} {m s bk r : Nat} {Q : mj_P} {k v2 : Int} (gm : G m = (1012, 0)) (gs : G s = (51100, 537)) (gb : G bk = (65100, 12)) (m6 : M0.2.2 m 6 = some s) (m46 : M0.2.2 m 46 = some bk) (k1 : 0 ≤ k) (k2 : k < 8) (hr : r = (88 + 12 * k).toNat) : ∀ (f i : Nat) (M : mj_M) (cb sb : Nat), i + f = 12 → ab_Inv G M → M.2 = M0.2 → lq_ke s r (r + i) M0 M → (∀ l, l < i → M.1 bk l = M0.1 s (r + l)) → (∀ M' cb sb, ab_Inv G M' → M'.2 = M0.2 → lq_ke s r (r + 12) M0 M' → (∀ l, l < 12 → M'.1 bk l = M0.1 s (r + l)) → wz 39 mt_X12_worth.2.2.2.2.1 Q (mt_X12_worth.2.2.2.2.1.drop 45) [some (.inr (.inr (some m))), some (.inl k), some (.inl v2), some (.inl 12), none] [] G M' cb sb) → wz 39 mt_X12_worth.2.2.2.2.1 Q (mt_X12_worth.2.2.2.2.1.drop 21) [some (.inr (.inr (some m))), some (.inl k), some (.inl v2), some (.inl (i : Int)), none] [] G M cb sb := by
  have bs : bk ≠ s := hn_ne gb gs (by decide)
  intro f
  induction f with
  | zero =>
    intro i M cb sb e hI h2 h1 h3 h
    have e : i = 12 := by omega
    subst e
    refine w_iln rfl ?_
    refine w_bp ?_
    refine w_cmge (fun c => ?_) (fun c => by exfalso; omega)
    exact h M _ _ hI h2 h1 h3
  | succ f ih =>
    intro i M cb sb e hI h2 h1 h3 h
    have ti : ((i : Int)).toNat = i := by omega
    have tr : ((88 : Int) + 12 * k + (i : Int)).toNat = r + i := by omega
    have vb : (-2147483648 : Int) ≤ M0.1 s (r + i) ∧ M0.1 s (r + i) ≤ 2147483647 := by
      rw [← h1 (r + i) (by omega) (by omega) (by omega)]
      have := hI.1 s (r + i)
      rw [gs] at this
      rw [show ab_rg (51100, 537).1 (r + i) = ab_ii from ab_s_b _ (by omega) (by omega)] at this
      exact this
    refine w_iln rfl ?_
    refine w_bp ?_
    refine w_cmge (fun c => by exfalso; omega) (fun c => ?_)
    refine w_aln rfl ?_
    refine w_gr gm rfl (by decide) rfl (by rw [h2]; exact m46) ?_
    refine w_iln rfl ?_
    refine w_aln rfl ?_
    refine w_iln rfl ?_
    refine w_iln rfl ?_
    refine w_cv (st := [.inl (i : Int), .inr (.inr (some bk))]) rfl gm rfl (Nat.le_of_ble_eq_true rfl) (fun kk h => h) ⟨Nat.le_of_ble_eq_true rfl, ?_⟩
    show wz 38 mt_X12_bidOf.2.2.2.2.1 _ mt_X12_bidOf.2.2.2.2.1 [some (.inr (.inr (some m))), some (.inl k), some (.inl (i : Int))] [] _ _ _ _
    refine w_aln rfl ?_
    refine w_gr gm rfl (by decide) rfl (by rw [h2]; exact m6) ?_
    refine w_bp ?_
    refine w_bp ?_
    refine w_iln rfl ?_
    refine w_mul ⟨by omega, by omega⟩ ?_
    refine w_add ⟨by omega, by omega⟩ ?_
    refine w_iln rfl ?_
    refine w_add ⟨by omega, by omega⟩ ?_
    refine w_iald (v := M0.1 s (r + i)) gs rfl (by omega) (by show (88 : Int) + 12 * k + (i : Int) < ((537 : Nat) : Int); omega) (by rw [tr]; exact h1 _ (by omega) (by omega) (by omega)) ?_
    refine w_iret (fun q => by cases q) ?_
    refine w_iast gb rfl (by decide) (by omega) (by show (i : Int) < ((12 : Nat) : Int); omega) ?_
    refine w_aln rfl ?_
    refine w_gr gm rfl (by decide) rfl (by show M.2.2 m 6 = _; rw [h2]; exact m6) ?_
    refine w_bp ?_
    refine w_bp ?_
    refine w_iln rfl ?_
    refine w_mul ⟨by omega, by omega⟩ ?_
    refine w_add ⟨by omega, by omega⟩ ?_
    refine w_iln rfl ?_
    refine w_add ⟨by omega, by omega⟩ ?_
    refine w_ic ?_
    refine w_iast gs rfl (by decide) (by omega) (by show (88 : Int) + 12 * k + (i : Int) < ((537 : Nat) : Int); omega) ?_
    refine w_ii rfl ⟨by omega, by omega⟩ ?_
    refine w_goto ?_
    rw [ti, tr]
    refine ih (i + 1) _ _ _ (by omega) ((hI.p0 ?_).p0 ?_) h2 (fun j j1 j2 j3 => (hn_n (Or.inr (by omega))).trans ((hn_n (Or.inl (Ne.symm bs))).trans (h1 j j1 j2 (by omega)))) (fun l hl => (hn_n (Or.inl bs)).trans ?_) h
    · rw [gb]; exact vb
    · rw [gs, show ab_rg (51100, 537).1 (r + i) = ab_ii from ab_s_b _ (by omega) (by omega)]; exact ⟨by decide, by decide⟩
    · rcases Nat.lt_or_ge l i with q | q
      · exact (hn_n (Or.inr (by omega))).trans (h3 l q)
      · rw [show l = i by omega]; exact hn_s
theorem r_wo2 {G : mj_G} {M0 : mj_M} {m s bk r : Nat} {Q : mj_P} {k v2 v3 : Int} {H : Nat → Int} (gm : G m = (1012, 0)) (gs : G s = (51100, 537)) (gb : G bk = (65100, 12)) (m6 : M0.2.2 m 6 = some s) (m46 : M0.2.2 m 46 = some bk) (hb : ∀ l, l < 12 → M0.1 bk l = H (r + l)) (k1 : 0 ≤ k) (k2 : k < 8) (hr : r = (88 + 12 * k).toNat) : ∀ (f i : Nat) (M : mj_M) (cb sb : Nat), i + f = 12 → ab_Inv G M → M.2 = M0.2 → M.1 bk = M0.1 bk → (∀ j, 88 ≤ j → j < 184 → ¬ (r + i ≤ j ∧ j < r + 12) → M.1 s j = H j) → (∀ M' cb sb, ab_Inv G M' → M'.2 = M0.2 → (∀ j, 88 ≤ j → j < 184 → M'.1 s j = H j) → wz 39 mt_X12_worth.2.2.2.2.1 Q (mt_X12_worth.2.2.2.2.1.drop 74) [some (.inr (.inr (some m))), some (.inl k), some (.inl v2), some (.inl v3), some (.inl 12)] [] G M' cb sb) → wz 39 mt_X12_worth.2.2.2.2.1 Q (mt_X12_worth.2.2.2.2.1.drop 55) [some (.inr (.inr (some m))), some (.inl k), some (.inl v2), some (.inl v3), some (.inl (i : Int))] [] G M cb sb := by
  have bs : bk ≠ s := hn_ne gb gs (by decide)
  intro f
  induction f with
  | zero =>
    intro i M cb sb e hI h2 h1 h3 h
    have e : i = 12 := by omega
    subst e
    refine w_il rfl ?_
    refine w_bp ?_
    refine w_cmge (fun c => ?_) (fun c => by exfalso; omega)
    exact h M _ _ hI h2 (fun j a b => h3 j a b (by omega))
  | succ f ih =>
    intro i M cb sb e hI h2 h1 h3 h
    have ti : ((i : Int)).toNat = i := by omega
    have tr : ((88 : Int) + 12 * k + (i : Int)).toNat = r + i := by omega
    have vb : (-2147483648 : Int) ≤ H (r + i) ∧ H (r + i) ≤ 2147483647 := by
      rw [← hb i (by omega), ← h1]
      have := hI.1 bk i
      rw [gb] at this
      exact this
    refine w_il rfl ?_
    refine w_bp ?_
    refine w_cmge (fun c => by exfalso; omega) (fun c => ?_)
    refine w_aln rfl ?_
    refine w_gr gm rfl (by decide) rfl (by rw [h2]; exact m6) ?_
    refine w_bp ?_
    refine w_bp ?_
    refine w_iln rfl ?_
    refine w_mul ⟨by omega, by omega⟩ ?_
    refine w_add ⟨by omega, by omega⟩ ?_
    refine w_il rfl ?_
    refine w_add ⟨by omega, by omega⟩ ?_
    refine w_aln rfl ?_
    refine w_gr gm rfl (by decide) rfl (by rw [h2]; exact m46) ?_
    refine w_il rfl ?_
    refine w_iald (v := H (r + i)) gb rfl (by omega) (by show (i : Int) < ((12 : Nat) : Int); omega) (by rw [ti, h1]; exact hb i (by omega)) ?_
    refine w_iast gs rfl (by decide) (by omega) (by show (88 : Int) + 12 * k + (i : Int) < ((537 : Nat) : Int); omega) ?_
    refine w_ii rfl ⟨by omega, by omega⟩ ?_
    refine w_goto ?_
    rw [tr]
    refine ih (i + 1) _ _ _ (by omega) (hI.p0 ?_) h2 ((wz_c bs).trans h1) (fun j j1 j2 j3 => ?_) h
    · rw [gs, show ab_rg (51100, 537).1 (r + i) = ab_ii from ab_s_b _ (by omega) (by omega)]; exact vb
    · by_cases q : j = r + i
      · rw [q]; exact hn_s
      · exact (hn_n (Or.inr q)).trans (h3 j j1 j2 (by omega))
set_option maxRecDepth 100000 in
theorem r_X12_worth5 {G : mj_G} {M : mj_M} {m s : Nat} {Q : mj_P} {z1 : Int} (hI : ab_Inv G M) (gm : G m = (1012, 0)) (gs : G s = (51100, 537)) (m6 : M.2.2 m 6 = some s) (b0 : 0 ≤ M.1 s 0 ∧ M.1 s 0 ≤ 8) (h : ∀ z M', (∀ j, 88 ≤ j → j < 184 → M'.1 s j = M.1 s j) → Q (some (.inl z)) G M') : mj_R mj_tab 40 259 [.inr (.inr (some m)), .inl z1] G M Q := by
  obtain ⟨bk, m46, gb⟩ := hn_rf (k := 46) (q := (65100, 12)) hI gm rfl (by decide) (by decide) (by decide) (fun e => absurd e (by decide))
  have sm : s ≠ m := hn_ne gs gm (by decide)
  have es : (mj_p0 M m 0 0).1 s = M.1 s := wz_c sm
  have hI1 : ab_Inv G (mj_p0 M m 0 0) := hI.p0 (by rw [gm]; exact ⟨by decide, by decide⟩)
  refine ⟨Nat.le_of_ble_eq_true rfl, ?_⟩
  show wz 39 mt_X12_worth.2.2.2.2.1 Q mt_X12_worth.2.2.2.2.1 [some (.inr (.inr (some m))), some (.inl z1), none, none, none] [] G M _ _
  refine w_aln rfl ?_
  refine w_ic ?_
  refine w_pi gm rfl (by decide) rfl (fun q => by cases q) ?_
  refine w_aln rfl ?_
  refine w_iln rfl ?_
  refine w_cv (st := []) rfl gm rfl (Nat.le_of_ble_eq_true rfl) (fun kk h => h) ⟨Nat.le_of_ble_eq_true rfl, ?_⟩
  show wz (38) mt_X12_isTown.2.2.2.2.1 _ mt_X12_isTown.2.2.2.2.1 [some (.inr (.inr (some m))), some (.inl z1)] [] _ _ _ _
  refine w_iln rfl ?_
  refine w_ic ?_
  refine w_aln rfl ?_
  refine w_gr gm rfl (by decide) rfl (m6) ?_
  refine w_ic ?_
  refine w_iald (v := (M.1 s 0)) gs rfl (by show (0 : Int) ≤ 0; omega) (by show 0 < ((537 : Nat) : Int); omega) ((hn_n (Or.inl (hn_ne gs gm (by decide)))).trans (congrArg (M.1 s) (by show (0 : Int).toNat = 0; omega))) ?_
  refine w_ic ?_
  refine w_sub ⟨by show (-2147483648 : Int) ≤ (M.1 s 0) - 1; omega, by show (M.1 s 0) - 1 < (2147483648 : Int); omega⟩ ?_
  refine w_cs (st := []) rfl (Nat.le_of_ble_eq_true rfl) (fun kk h => h) ⟨Nat.le_of_ble_eq_true rfl, ?_⟩
  show wz (37) mt_X12_isIn.2.2.2.2.1 _ mt_X12_isIn.2.2.2.2.1 [some (.inl z1), some (.inl 0), some (.inl ((M.1 s 0) - 1))] [] _ _ _ _
  refine w_iln rfl ?_
  refine w_iln rfl ?_
  refine w_cmlt (fun c1 => ?_) (fun c1 => ?_)
  · skip
    refine w_ic ?_
    refine w_iret (fun _ => Or.inl rfl) ?_
    refine w_iret (fun _ => Or.inl rfl) ?_
    refine w_ifne (fun c2 => ?_) (fun c2 => ?_)
    · exfalso; omega
    · skip
      refine w_sp ?_
      exact w_iret (fun q => by cases q) (h _ _ (fun j _ _ => by rw [es]))
  · skip
    refine w_iln rfl ?_
    refine w_iln rfl ?_
    refine w_cmgt (fun c3 => ?_) (fun c3 => ?_)
    · skip
      refine w_ic ?_
      refine w_iret (fun _ => Or.inl rfl) ?_
      refine w_iret (fun _ => Or.inl rfl) ?_
      refine w_ifne (fun c4 => ?_) (fun c4 => ?_)
      · exfalso; omega
      · skip
        refine w_sp ?_
        exact w_iret (fun q => by cases q) (h _ _ (fun j _ _ => by rw [es]))
    · skip
      refine w_ic ?_
      refine w_goto ?_
      refine w_iret (fun _ => Or.inr rfl) ?_
      refine w_iret (fun _ => Or.inr rfl) ?_
      refine w_ifne (fun c5 => ?_) (fun c5 => ?_)
      · skip
        refine w_aln rfl ?_
        refine w_cv (st := []) rfl gm rfl (Nat.le_of_ble_eq_true rfl) (fun kk h => h) (r_thinks (dd := 38) (by decide +kernel) hI1 gm (fun M2 I2 f2 => ?_))
        refine w_aln rfl ?_
        refine w_ic ?_
        refine w_cv (st := []) rfl gm rfl (Nat.le_of_ble_eq_true rfl) (fun kk h => h) (r_wholeYear (dd := 38) (by decide +kernel) I2 gm ⟨by decide, by decide⟩ (fun M3 I3 f3 => ?_))
        have e36 : M3.2.2 m 6 = some s := (hn_rr gm f3 (by decide +kernel)).trans ((hn_rr gm f2 (by decide +kernel)).trans m6)
        have e346 : M3.2.2 m 46 = some bk := (hn_rr gm f3 (by decide +kernel)).trans ((hn_rr gm f2 (by decide +kernel)).trans m46)
        have k3 : lq_ke s 0 0 M M3 := lq_ke.fr gs (lq_ke.fr gs (fun j _ _ _ => by rw [es]) f2 (by decide +kernel)) f3 (by decide +kernel)
        refine w_aln rfl ?_
        refine w_gr gm rfl (by decide) rfl e36 ?_
        refine w_sp ?_
        refine w_iald (v := M3.1 s 224) gs rfl (by decide) (by decide) rfl ?_
        refine w_isn ?_
        refine w_ic ?_
        refine w_isn ?_
        refine r_wo1 (M0 := M3) (r := (88 + 12 * z1).toNat) gm gs gb e36 e346 (by omega) (by omega) rfl 12 0 M3 _ _ (by decide) I3 rfl (fun _ _ _ _ => rfl) (fun l hl => absurd hl (Nat.not_lt_zero l)) (fun M4 cb sb I4 g2 g1 g3 => ?_)
        refine w_aln rfl ?_
        refine w_ic ?_
        refine w_cv (st := []) rfl gm rfl (Nat.le_of_ble_eq_true rfl) (fun kk h => h) (r_wholeYear (dd := 38) (by decide +kernel) I4 gm ⟨by decide, by decide⟩ (fun M5 I5 f5 => ?_))
        have e56 : M5.2.2 m 6 = some s := (hn_rr gm f5 (by decide +kernel)).trans (by rw [g2]; exact e36)
        have e546 : M5.2.2 m 46 = some bk := (hn_rr gm f5 (by decide +kernel)).trans (by rw [g2]; exact e346)
        have k5 : lq_ke s (88 + 12 * z1).toNat ((88 + 12 * z1).toNat + 12) M3 M5 := lq_ke.fr gs g1 f5 (by decide +kernel)
        have b5 : ∀ l, l < 12 → M5.1 bk l = M.1 s ((88 + 12 * z1).toNat + l) := fun l hl => (f5 bk l (by rw [gb]; exact hn_nt (by decide +kernel))).1.trans ((g3 l hl).trans (k3 _ (by omega) (by omega) (by omega)))
        refine w_aln rfl ?_
        refine w_gr gm rfl (by decide) rfl e56 ?_
        refine w_sp ?_
        refine w_iald (v := M5.1 s 224) gs rfl (by decide) (by decide) rfl ?_
        refine w_isn ?_
        refine w_ic ?_
        refine w_is ?_
        refine r_wo2 (M0 := M5) (H := M.1 s) (r := (88 + 12 * z1).toNat) gm gs gb e56 e546 b5 (by omega) (by omega) rfl 12 0 M5 _ _ (by decide) I5 rfl rfl (fun j j1 j2 j3 => (k5 j j1 j2 (by omega)).trans (k3 j j1 j2 (by omega))) (fun M6 cb sb I6 q2 q1 => ?_)
        refine w_aln rfl ?_
        refine w_cv (st := []) rfl gm rfl (Nat.le_of_ble_eq_true rfl) (fun kk h => h) (r_forgets (dd := 38) (by decide +kernel) I6 gm (fun M7 I7 f7 => ?_))
        refine w_iln rfl ?_
        refine w_iln rfl ?_
        refine w_subw ?_
        intro z hz ez
        exact w_iret (fun q => by cases q) (h z M7 (fun j j1 j2 => ((lq_ke.fr gs (fun _ _ _ _ => rfl : lq_ke s 0 0 M6 M6) f7 (by decide +kernel)) j j1 j2 (by omega)).trans (q1 j j1 j2)))
      · exfalso; omega
/-- bids of s are H's, but the r-th; s is where it was -/
def lq_mu (G : mj_G) (m s r : Nat) (H : Nat → Int) (M : mj_M) : Prop := ab_Inv G M ∧ M.2.2 m 6 = some s ∧ ∀ j, 88 ≤ j → j < 184 → j ≠ r → M.1 s j = H j
theorem lq_mu.fr {G : mj_G} {m s r : Nat} {H : Nat → Int} {M M' : mj_M} {W : List (Nat × Nat × Nat)} (gm : G m = (1012, 0)) (gs : G s = (51100, 537)) (h : lq_mu G m s r H M) (I : ab_Inv G M') (f : ab_frm W G M M') (c : ∀ q ∈ W, ¬ (q.1 = 51100 ∧ q.2.1 < 184)) (c2 : ∀ q ∈ W, ¬ (q.1 = 1012 ∧ q.2.1 ≤ 6 ∧ 6 ≤ q.2.2)) : lq_mu G m s r H M' := ⟨I, (hn_rr gm f c2).trans h.2.1, fun j j1 j2 j3 => (f s j (by
  rw [gs]; rintro ⟨q, hq, e1, e2, e3⟩; exact c q hq ⟨e1, by omega⟩)).1.trans (h.2.2 j j1 j2 j3)⟩
theorem r_mu1 {G : mj_G} {m s r : Nat} {Q : mj_P} {k o wa : Int} {H : Nat → Int} (gm : G m = (1012, 0)) (gs : G s = (51100, 537)) (k1 : 0 ≤ k) (k2 : k < 8) (o1 : 0 ≤ o) (o2 : o < 12) (hr : r = (88 + 12 * k + o).toNat) {g n : Int} : ∀ (f i : Nat) (M : mj_M) (cb sb : Nat), (i : Int) + f = o + 1 → M.1 s 222 = (i : Int) → lq_mu G m s r H M → (∀ M' v6 cb sb, lq_mu G m s r H M' → wz 39 mt_X12_must.2.2.2.2.1 Q (mt_X12_must.2.2.2.2.1.drop 51) [some (.inr (.inr (some m))), some (.inl k), some (.inl o), some (.inl wa), some (.inl g), some (.inl n), v6] [] G M' cb sb) → wz 39 mt_X12_must.2.2.2.2.1 Q (mt_X12_must.2.2.2.2.1.drop 43) [some (.inr (.inr (some m))), some (.inl k), some (.inl o), some (.inl wa), some (.inl g), some (.inl n), some (.inl (i : Int))] [] G M cb sb := by
  intro f
  induction f with
  | zero =>
    intro i M cb sb e e2 h1 h
    refine w_il rfl ?_
    refine w_iln rfl ?_
    refine w_cmgt (fun c => ?_) (fun c => by exfalso; omega)
    exact h M _ _ _ h1
  | succ f ih =>
    intro i M cb sb e e2 h1 h
    refine w_il rfl ?_
    refine w_iln rfl ?_
    refine w_cmgt (fun c => by exfalso; omega) (fun c => ?_)
    refine w_aln rfl ?_
    refine w_ic ?_
    refine w_cv (st := []) rfl gm rfl (Nat.le_of_ble_eq_true rfl) (fun kk h => h) (r_month5 (dd := 38) (by decide +kernel) h1.1 gm gs h1.2.1 ⟨by decide, by decide⟩ (by omega) (fun M1 I1 f1 g1 => ?_))
    refine w_ii rfl ⟨by omega, by omega⟩ ?_
    refine w_goto ?_
    exact ih (i + 1) M1 _ _ (by omega) (by omega) (h1.fr gm gs I1 f1 (by decide +kernel) (by decide +kernel)) h
theorem r_mu2 {G : mj_G} {m s r : Nat} {Q : mj_P} {k o wa : Int} {H : Nat → Int} (gm : G m = (1012, 0)) (gs : G s = (51100, 537)) (k1 : 0 ≤ k) (k2 : k < 8) (o1 : 0 ≤ o) (o2 : o < 12) (hr : r = (88 + 12 * k + o).toNat) (hw : wa = H r) (wb : (-2147483648 : Int) ≤ wa ∧ wa ≤ 2147483647) (hQ : ∀ z M', (∀ j, 88 ≤ j → j < 184 → M'.1 s j = H j) → Q (some (.inl z)) G M') : ∀ (f : Nat) (n g : Int) (M : mj_M) (v6 : Option mj_V) (cb sb : Nat), n + f = 1000 → 1 ≤ n → lq_mu G m s r H M → wz 39 mt_X12_must.2.2.2.2.1 Q (mt_X12_must.2.2.2.2.1.drop 23) [some (.inr (.inr (some m))), some (.inl k), some (.inl o), some (.inl wa), some (.inl g), some (.inl n), v6] [] G M cb sb := by
  have tr : ((88 : Int) + 12 * k + o).toNat = r := by omega
  have fin : ∀ (n g : Int) (M : mj_M) (v6 : Option mj_V) (cb sb : Nat), lq_mu G m s r H M → wz 39 mt_X12_must.2.2.2.2.1 Q (mt_X12_must.2.2.2.2.1.drop 76) [some (.inr (.inr (some m))), some (.inl k), some (.inl o), some (.inl wa), some (.inl g), some (.inl n), v6] [] G M cb sb := by
    intro n g M v6 cb sb h1
    refine w_aln rfl ?_
    refine w_gr gm rfl (by decide) rfl h1.2.1 ?_
    refine w_bp ?_
    refine w_bp ?_
    refine w_iln rfl ?_
    refine w_mul ⟨by omega, by omega⟩ ?_
    refine w_add ⟨by omega, by omega⟩ ?_
    refine w_iln rfl ?_
    refine w_add ⟨by omega, by omega⟩ ?_
    refine w_iln rfl ?_
    refine w_iast gs rfl (by decide) (by omega) (by show (88 : Int) + 12 * k + o < ((537 : Nat) : Int); omega) ?_
    rw [tr]
    refine w_aln rfl ?_
    refine w_cv (st := []) rfl gm rfl (Nat.le_of_ble_eq_true rfl) (fun kk h => h) (r_forgets (dd := 38) (by decide +kernel) (h1.1.p0 (by rw [gs, show ab_rg (51100, 537).1 r = ab_ii from ab_s_b _ (by omega) (by omega)]; exact wb)) gm (fun M1 I1 f1 => ?_))
    refine w_il rfl ?_
    refine w_iret (fun q => by cases q) (hQ g M1 (fun j j1 j2 => (f1 s j (by
      rw [gs]; rintro ⟨q, hq, e1, e2, e3⟩; exact (by decide +kernel : ∀ q ∈ ab_w cd_22, ¬ (q.1 = 51100 ∧ q.2.1 < 184)) q hq ⟨e1, by omega⟩)).1.trans ?_))
    by_cases e : j = r
    · rw [e]; exact hn_s.trans hw
    · exact (hn_n (Or.inr e)).trans (h1.2.2 j j1 j2 e)
  intro f
  induction f with
  | zero =>
    intro n g M v6 cb sb e n1 h1
    refine w_il rfl ?_
    refine w_sp ?_
    refine w_cmge (fun c => ?_) (fun c => by exfalso; omega)
    exact fin n g M v6 _ _ h1
  | succ f ih =>
    intro n g M v6 cb sb e n1 h1
    refine w_il rfl ?_
    refine w_sp ?_
    refine w_cmge (fun c => by exfalso; omega) (fun c => ?_)
    refine w_il rfl ?_
    refine w_ifge (fun c2 => ?_) (fun c2 => ?_)
    · exact fin n g M v6 _ _ h1
    refine w_aln rfl ?_
    refine w_gr gm rfl (by decide) rfl h1.2.1 ?_
    refine w_bp ?_
    refine w_bp ?_
    refine w_iln rfl ?_
    refine w_mul ⟨by omega, by omega⟩ ?_
    refine w_add ⟨by omega, by omega⟩ ?_
    refine w_iln rfl ?_
    refine w_add ⟨by omega, by omega⟩ ?_
    refine w_il rfl ?_
    refine w_iast gs rfl (by decide) (by omega) (by show (88 : Int) + 12 * k + o < ((537 : Nat) : Int); omega) ?_
    rw [tr]
    refine w_aln rfl ?_
    refine w_cv (st := []) rfl gm rfl (Nat.le_of_ble_eq_true rfl) (fun kk h => h) (r_begins5 (dd := 38) (by decide +kernel) (h1.1.p0 (by rw [gs, show ab_rg (51100, 537).1 r = ab_ii from ab_s_b _ (by omega) (by omega)]; exact ⟨by show (-2147483648 : Int) ≤ n; omega, by show n ≤ (2147483647 : Int); omega⟩)) gm gs h1.2.1 (fun M1 I1 f1 g1 => ?_))
    have h2 : lq_mu G m s r H M1 := lq_mu.fr (M := mj_p0 M s r n) gm gs ⟨h1.1.p0 (by rw [gs, show ab_rg (51100, 537).1 r = ab_ii from ab_s_b _ (by omega) (by omega)]; exact ⟨by show (-2147483648 : Int) ≤ n; omega, by show n ≤ (2147483647 : Int); omega⟩), h1.2.1, fun j j1 j2 j3 => (hn_n (Or.inr j3)).trans (h1.2.2 j j1 j2 j3)⟩ I1 f1 (by decide +kernel) (by decide +kernel)
    refine w_ic ?_
    refine w_is ?_
    refine r_mu1 gm gs k1 k2 o1 o2 hr (o + 1).toNat 0 M1 _ _ (by omega) g1 h2 (fun M2 v6 cb sb h3 => ?_)
    have ta : ((320 : Int) + 3 * o).toNat = (320 + 3 * o).toNat := rfl
    refine w_aln rfl ?_
    refine w_gr gm rfl (by decide) rfl h3.2.1 ?_
    refine w_sp ?_
    refine w_ic ?_
    refine w_iln rfl ?_
    refine w_mul ⟨by omega, by omega⟩ ?_
    refine w_add ⟨by omega, by omega⟩ ?_
    refine w_iald (v := M2.1 s ((320 : Int) + 3 * o).toNat) gs rfl (by omega) (by show (320 : Int) + 3 * o < ((537 : Nat) : Int); omega) rfl ?_
    refine w_iln rfl ?_
    refine w_cmne (fun c3 => ?_) (fun c3 => ?_)
    · refine w_ii rfl ⟨by omega, by omega⟩ ?_
      refine w_goto ?_
      exact ih (n + 1) g M2 _ _ _ (by omega) (by omega) h3
    · refine w_aln rfl ?_
      refine w_gr gm rfl (by decide) rfl h3.2.1 ?_
      refine w_sp ?_
      refine w_ic ?_
      refine w_iln rfl ?_
      refine w_mul ⟨by omega, by omega⟩ ?_
      refine w_add ⟨by omega, by omega⟩ ?_
      refine w_ic ?_
      refine w_add ⟨by omega, by omega⟩ ?_
      refine w_iald (v := M2.1 s ((320 : Int) + 3 * o + 1).toNat) gs rfl (by omega) (by show (320 : Int) + 3 * o + 1 < ((537 : Nat) : Int); omega) rfl ?_
      refine w_ifge (fun c4 => ?_) (fun c4 => ?_)
      · refine w_ii rfl ⟨by omega, by omega⟩ ?_
        refine w_goto ?_
        exact ih (n + 1) g M2 _ _ _ (by omega) (by omega) h3
      · refine w_il rfl ?_
        refine w_is ?_
        refine w_ii rfl ⟨by omega, by omega⟩ ?_
        refine w_goto ?_
        exact ih (n + 1) n M2 _ _ _ (by omega) (by omega) h3
set_option maxRecDepth 100000 in
theorem r_X12_must5 {G : mj_G} {M : mj_M} {m s : Nat} {Q : mj_P} {z1 z2 : Int} (hI : ab_Inv G M) (gm : G m = (1012, 0)) (gs : G s = (51100, 537)) (m6 : M.2.2 m 6 = some s) (b0 : 0 ≤ M.1 s 0 ∧ M.1 s 0 ≤ 8) (h : ∀ z M', (∀ j, 88 ≤ j → j < 184 → M'.1 s j = M.1 s j) → Q (some (.inl z)) G M') : mj_R mj_tab 40 215 [.inr (.inr (some m)), .inl z1, .inl z2] G M Q := by
  have sm : s ≠ m := hn_ne gs gm (by decide)
  have es : (mj_p0 M m 0 0).1 s = M.1 s := wz_c sm
  have hI1 : ab_Inv G (mj_p0 M m 0 0) := hI.p0 (by rw [gm]; exact ⟨by decide, by decide⟩)
  refine ⟨Nat.le_of_ble_eq_true rfl, ?_⟩
  show wz 39 mt_X12_must.2.2.2.2.1 Q mt_X12_must.2.2.2.2.1 [some (.inr (.inr (some m))), some (.inl z1), some (.inl z2), none, none, none, none] [] G M _ _
  refine w_aln rfl ?_
  refine w_ic ?_
  refine w_pi gm rfl (by decide) rfl (fun q => by cases q) ?_
  refine w_aln rfl ?_
  refine w_iln rfl ?_
  refine w_cv (st := []) rfl gm rfl (Nat.le_of_ble_eq_true rfl) (fun kk h => h) ⟨Nat.le_of_ble_eq_true rfl, ?_⟩
  show wz (38) mt_X12_isTown.2.2.2.2.1 _ mt_X12_isTown.2.2.2.2.1 [some (.inr (.inr (some m))), some (.inl z1)] [] _ _ _ _
  refine w_iln rfl ?_
  refine w_ic ?_
  refine w_aln rfl ?_
  refine w_gr gm rfl (by decide) rfl (m6) ?_
  refine w_ic ?_
  refine w_iald (v := (M.1 s 0)) gs rfl (by show (0 : Int) ≤ 0; omega) (by show 0 < ((537 : Nat) : Int); omega) ((hn_n (Or.inl (hn_ne gs gm (by decide)))).trans (congrArg (M.1 s) (by show (0 : Int).toNat = 0; omega))) ?_
  refine w_ic ?_
  refine w_sub ⟨by show (-2147483648 : Int) ≤ (M.1 s 0) - 1; omega, by show (M.1 s 0) - 1 < (2147483648 : Int); omega⟩ ?_
  refine w_cs (st := []) rfl (Nat.le_of_ble_eq_true rfl) (fun kk h => h) ⟨Nat.le_of_ble_eq_true rfl, ?_⟩
  show wz (37) mt_X12_isIn.2.2.2.2.1 _ mt_X12_isIn.2.2.2.2.1 [some (.inl z1), some (.inl 0), some (.inl ((M.1 s 0) - 1))] [] _ _ _ _
  refine w_iln rfl ?_
  refine w_iln rfl ?_
  refine w_cmlt (fun c1 => ?_) (fun c1 => ?_)
  · skip
    refine w_ic ?_
    refine w_iret (fun _ => Or.inl rfl) ?_
    refine w_iret (fun _ => Or.inl rfl) ?_
    refine w_ifeq (fun c2 => ?_) (fun c2 => ?_)
    · skip
      refine w_ic ?_
      exact w_iret (fun q => by cases q) (h _ _ (fun j _ _ => by rw [es]))
    · exfalso; omega
  · skip
    refine w_iln rfl ?_
    refine w_iln rfl ?_
    refine w_cmgt (fun c3 => ?_) (fun c3 => ?_)
    · skip
      refine w_ic ?_
      refine w_iret (fun _ => Or.inl rfl) ?_
      refine w_iret (fun _ => Or.inl rfl) ?_
      refine w_ifeq (fun c4 => ?_) (fun c4 => ?_)
      · skip
        refine w_ic ?_
        exact w_iret (fun q => by cases q) (h _ _ (fun j _ _ => by rw [es]))
      · exfalso; omega
    · skip
      refine w_ic ?_
      refine w_goto ?_
      refine w_iret (fun _ => Or.inr rfl) ?_
      refine w_iret (fun _ => Or.inr rfl) ?_
      refine w_ifeq (fun c5 => ?_) (fun c5 => ?_)
      · exfalso; omega
      · skip
        refine w_iln rfl ?_
        refine w_cs (st := []) rfl (Nat.le_of_ble_eq_true rfl) (fun kk h => h) ⟨Nat.le_of_ble_eq_true rfl, ?_⟩
        show wz (38) mt_X12_isMonth.2.2.2.2.1 _ mt_X12_isMonth.2.2.2.2.1 [some (.inl z2)] [] _ _ _ _
        refine w_iln rfl ?_
        refine w_ic ?_
        refine w_bp ?_
        refine w_cs (st := []) rfl (Nat.le_of_ble_eq_true rfl) (fun kk h => h) ⟨Nat.le_of_ble_eq_true rfl, ?_⟩
        show wz (37) mt_X12_isIn.2.2.2.2.1 _ mt_X12_isIn.2.2.2.2.1 [some (.inl z2), some (.inl 0), some (.inl 11)] [] _ _ _ _
        refine w_iln rfl ?_
        refine w_iln rfl ?_
        refine w_cmlt (fun c6 => ?_) (fun c6 => ?_)
        · skip
          refine w_ic ?_
          refine w_iret (fun _ => Or.inl rfl) ?_
          refine w_iret (fun _ => Or.inl rfl) ?_
          refine w_ifne (fun c7 => ?_) (fun c7 => ?_)
          · exfalso; omega
          · skip
            refine w_ic ?_
            exact w_iret (fun q => by cases q) (h _ _ (fun j _ _ => by rw [es]))
        · skip
          refine w_iln rfl ?_
          refine w_iln rfl ?_
          refine w_cmgt (fun c8 => ?_) (fun c8 => ?_)
          · skip
            refine w_ic ?_
            refine w_iret (fun _ => Or.inl rfl) ?_
            refine w_iret (fun _ => Or.inl rfl) ?_
            refine w_ifne (fun c9 => ?_) (fun c9 => ?_)
            · exfalso; omega
            · skip
              refine w_ic ?_
              exact w_iret (fun q => by cases q) (h _ _ (fun j _ _ => by rw [es]))
          · skip
            refine w_ic ?_
            refine w_goto ?_
            refine w_iret (fun _ => Or.inr rfl) ?_
            refine w_iret (fun _ => Or.inr rfl) ?_
            refine w_ifne (fun c10 => ?_) (fun c10 => ?_)
            · skip
              refine w_aln rfl ?_
              refine w_cv (st := []) rfl gm rfl (Nat.le_of_ble_eq_true rfl) (fun kk h => h) (r_thinks (dd := 38) (by decide +kernel) hI1 gm (fun M2 I2 f2 => ?_))
              have e26 : M2.2.2 m 6 = some s := (hn_rr gm f2 (by decide +kernel)).trans m6
              have k2 : lq_ke s 0 0 M M2 := lq_ke.fr gs (fun j _ _ _ => by rw [es]) f2 (by decide +kernel)
              have tr : ((88 : Int) + 12 * z1 + z2).toNat = (88 + 12 * z1 + z2).toNat := rfl
              refine w_aln rfl ?_
              refine w_iln rfl ?_
              refine w_iln rfl ?_
              refine w_cv (st := []) rfl gm rfl (Nat.le_of_ble_eq_true rfl) (fun kk h => h) ⟨Nat.le_of_ble_eq_true rfl, ?_⟩
              show wz 38 mt_X12_bidOf.2.2.2.2.1 _ mt_X12_bidOf.2.2.2.2.1 [some (.inr (.inr (some m))), some (.inl z1), some (.inl z2)] [] _ _ _ _
              refine w_aln rfl ?_
              refine w_gr gm rfl (by decide) rfl e26 ?_
              refine w_bp ?_
              refine w_bp ?_
              refine w_iln rfl ?_
              refine w_mul ⟨by omega, by omega⟩ ?_
              refine w_add ⟨by omega, by omega⟩ ?_
              refine w_iln rfl ?_
              refine w_add ⟨by omega, by omega⟩ ?_
              refine w_iald (v := M.1 s (88 + 12 * z1 + z2).toNat) gs rfl (by omega) (by show (88 : Int) + 12 * z1 + z2 < ((537 : Nat) : Int); omega) (k2 _ (by omega) (by omega) (by omega)) ?_
              refine w_iret (fun q => by cases q) ?_
              refine w_isn ?_
              refine w_ic ?_
              refine w_is ?_
              refine w_ic ?_
              refine w_is ?_
              have vb : (-2147483648 : Int) ≤ M.1 s (88 + 12 * z1 + z2).toNat ∧ M.1 s (88 + 12 * z1 + z2).toNat ≤ 2147483647 := by
                have := hI.1 s (88 + 12 * z1 + z2).toNat
                rw [gs] at this
                rw [show ab_rg (51100, 537).1 (88 + 12 * z1 + z2).toNat = ab_ii from ab_s_b _ (by omega) (by omega)] at this
                exact this
              exact r_mu2 (H := M.1 s) (r := (88 + 12 * z1 + z2).toNat) gm gs (by omega) (by omega) (by omega) (by omega) rfl rfl vb h 999 1 (-1) M2 none _ _ (by decide) (by decide) ⟨I2, e26, fun j j1 j2 _ => k2 j j1 j2 (by omega)⟩
            · exfalso; omega
end
section
/-! ===== offer, undo, as the invariant sees them ===== -/
def lq_T (M : mj_M) (s kp kr : Nat) : Prop := rv_r6 (M.1 s) 0 ∧ ∀ k, k < 2 → M.1 kr k ≠ 0 → rv_r6 (M.1 kp) (538 * k)
section SB
variable {G : mj_G} {M M' : mj_M} {w : Nat → Nat} {x m s kp kc kr p q R t v : Nat} {n : Int} {H : Nat → Int}
theorem rv_G6.set (h : rv_G6 H 0 w p M) (hA : lq_A G w) (hp : p ∈ lq_Ps) (ht : t < 8) (hv : v < 12) (sb : lq_sb w p t v n M M') : rv_G6 (rv_up H (88 + 12 * t + v) n) 0 w p M' := by
  obtain ⟨⟨h1, h2, h3, h4, h5, h6⟩, h7, h8⟩ := h
  obtain ⟨-, s2, s3, s4, s5⟩ := sb
  obtain ⟨g1, -, -, -, g5, g6, g7⟩ := hA.2.1 p hp
  have hP := lq_P4 hp
  have up : ∀ k, k ≠ 88 + 12 * t + v → rv_up H (88 + 12 * t + v) n k = H k := fun k hk => rv_up_n hk
  have H7 : H (88 + 12 * t + v) = M.1 (w (p + 12 + t)) v := by have := h7 t v ht hv; rw [Nat.zero_add] at this; exact this
  refine ⟨⟨(up _ (by omega)).trans (h1.trans (s3 4 (by decide)).symm), (up _ (by omega)).trans (h2.trans (s3 6 (by decide)).symm), (up _ (by omega)).trans (h3.trans (s3 7 (by decide)).symm), (up _ (by omega)).trans (h4.trans (s3 8 (by decide)).symm), fun t' v' ht' hv' => ?_, fun v' hv' => ?_⟩, fun t' v' ht' hv' => ?_, ?_⟩
  · rw [up _ (by omega), s2 _ (hn_ne (g6 t' ht') g1 (by decide)) (hn_ne (g6 t' ht') (g7 t ht) (by decide))]; exact h5 t' v' ht' hv'
  · rw [up _ (by omega), s2 _ (hn_ne g5 g1 (by decide)) (hn_ne g5 (g7 t ht) (by decide))]; exact h6 v' hv'
  · by_cases e : t' = t
    · subst e
      rw [s5]
      by_cases e2 : v' = v
      · subst e2; rw [Nat.zero_add, rv_up_s, rv_up_s]
      · rw [rv_up_n e2, up _ (by omega)]; exact h7 t' v' ht' hv'
    · rw [up _ (by omega), s2 _ (hn_ne (g7 t' ht') g1 (by decide)) (fun q => by have := hA.1 _ _ (by omega) (by omega) q; omega)]
      exact h7 t' v' ht' hv'
  · rw [s4, h8, ← H7]
    have e1 : lq_ct (fun i => H (0 + (88 + i))) 96 = lq_ct (fun i => H (88 + i)) 96 := lq_ct_cg 96 (fun i _ => by rw [Nat.zero_add])
    have e2 : lq_ct (fun i => rv_up H (88 + 12 * t + v) n (0 + (88 + i))) 96 = lq_ct (fun i => rv_up H (88 + 12 * t + v) n (88 + i)) 96 := lq_ct_cg 96 (fun i _ => by rw [Nat.zero_add])
    rw [e1, e2, lq_ct_s (by omega) (by omega)]
theorem lq_sb.E (sb : lq_sb w p t v n M M') (hA : lq_A G w) (hp : p ∈ lq_Ps) (ht : t < 8) (hR : R ∈ lq_Ps) (hne : R ≠ p) : lq_E6 w R M M' := by
  have h4 := lq_P4 hp
  have h5 := lq_P4 hR
  have key : ∀ u, R ≤ u → u < R + 22 → M'.1 (w u) = M.1 (w u) := fun u h1 h2 => sb.2.1 _ (fun e => by have := hA.1 _ _ (by omega) (by omega) e; omega) (fun e => by have := hA.1 _ _ (by omega) (by omega) e; omega)
  have k0 := key R (by omega) (by omega)
  exact ⟨⟨⟨by rw [k0], by rw [k0], by rw [k0], by rw [k0]⟩, fun t v ht hv => by rw [key (R + 3 + t) (by omega) (by omega)], fun v hv => by rw [key (R + 20) (by omega) (by omega)]⟩, by rw [k0], fun t v ht hv => by rw [key (R + 12 + t) (by omega) (by omega)]⟩
/-- cells of PLAINS are as they were -/
theorem lq_E6.of (hR : R ∈ lq_Ps) (h : ∀ u, R ≤ u → u < R + 22 → M'.1 (w u) = M.1 (w u)) : lq_E6 w R M M' := by
  have k0 := h R (by omega) (by omega)
  exact ⟨⟨⟨by rw [k0], by rw [k0], by rw [k0], by rw [k0]⟩, fun t v ht hv => by rw [h (R + 3 + t) (by omega) (by omega)], fun v hv => by rw [h (R + 20) (by omega) (by omega)]⟩, by rw [k0], fun t v ht hv => by rw [h (R + 12 + t) (by omega) (by omega)]⟩
theorem lq_A.tg (hA : lq_A G w) (hR : R ∈ lq_Ps) : ∀ u, R ≤ u → u < R + 21 → ∃ n, G (w u) = (1004, n) ∨ G (w u) = (24103, n) ∨ G (w u) = (25104, n) ∨ G (w u) = (26100, n) ∨ G (w u) = (27104, n) ∨ G (w u) = (28100, n) ∨ G (w u) = (29100, n) := by
  intro u h1 h2
  obtain ⟨g1, g2, g3, g4, g5, g6, g7⟩ := hA.2.1 R hR
  have : u = R ∨ u = R + 1 ∨ u = R + 2 ∨ (R + 3 ≤ u ∧ u < R + 11) ∨ u = R + 11 ∨ (R + 12 ≤ u ∧ u < R + 20) ∨ u = R + 20 := by omega
  rcases this with rfl | rfl | rfl | h | rfl | h | rfl
  · exact ⟨_, Or.inl g1⟩
  · exact ⟨_, Or.inr (Or.inl g2)⟩
  · exact ⟨_, Or.inr (Or.inr (Or.inl g3))⟩
  · have := g6 (u - R - 3) (by omega)
    rw [show R + 3 + (u - R - 3) = u by omega] at this
    exact ⟨_, Or.inr (Or.inr (Or.inr (Or.inl this)))⟩
  · exact ⟨_, Or.inr (Or.inr (Or.inr (Or.inr (Or.inl g4))))⟩
  · have := g7 (u - R - 12) (by omega)
    rw [show R + 12 + (u - R - 12) = u by omega] at this
    exact ⟨_, Or.inr (Or.inr (Or.inr (Or.inr (Or.inr (Or.inl this)))))⟩
  · exact ⟨_, Or.inr (Or.inr (Or.inr (Or.inr (Or.inr (Or.inr g5)))))⟩
/-- a cell of another sort is none of a PLAIN's -/
theorem lq_A.ne (hA : lq_A G w) (hR : R ∈ lq_Ps) {a t n : Nat} (ga : G a = (t, n)) (h1 : t ≠ 1004) (h2 : t ≠ 24103) (h3 : t ≠ 25104) (h4 : t ≠ 26100) (h5 : t ≠ 27104) (h6 : t ≠ 28100) (h7 : t ≠ 29100) : ∀ u, R ≤ u → u < R + 21 → w u ≠ a := by
  intro u a1 a2 e
  obtain ⟨k, h⟩ := hA.tg hR u a1 a2
  rw [e, ga] at h
  rcases h with h | h | h | h | h | h | h
  all_goals
    have := congrArg Prod.fst h
    omega
/-- cells but those of some sorts are as they were: so is every PLAIN -/
theorem lq_E6.by (hA : lq_A G w) (hR : R ∈ lq_Ps) (h : ∀ u, R ≤ u → u < R + 21 → M'.1 (w u) = M.1 (w u)) : lq_E6 w R M M' := by
  have k0 := h R (by omega) (by omega)
  exact ⟨⟨⟨by rw [k0], by rw [k0], by rw [k0], by rw [k0]⟩, fun t v ht hv => by rw [h (R + 3 + t) (by omega) (by omega)], fun v hv => by rw [h (R + 20) (by omega) (by omega)]⟩, by rw [k0], fun t v ht hv => by rw [h (R + 12 + t) (by omega) (by omega)]⟩
theorem lq_J.of (hJ : lq_J G M x s kp kc w) (e2 : M'.2.2 = M.2.2) (ek : M'.1 kp = M.1 kp) (ec : M'.1 kc = M.1 kc) (H1 : ∀ p q, lq_N M w p q → rv_G6 (M.1 s) 0 w p M → rv_G6 (M'.1 s) 0 w p M') (H2 : ∀ p q, lq_N M w p q → ∀ k, k < 2 → lq_E6 w (lq_ip k) M M') : lq_J G M' x s kp kc w := by
  obtain ⟨hA, hB, p, q, hN, h1, h2⟩ := hJ
  refine ⟨hA, by unfold lq_B; rw [e2]; exact hB, p, q, by unfold lq_N; rw [e2]; exact hN, H1 p q hN h1, fun k hk h0 => ?_⟩
  rw [ec] at h0; rw [ek]
  exact (h2 k hk h0).cg (H2 p q hN k hk) (fun _ _ => rfl)
end SB
/-! what the undone are behind an offer -/
theorem lq_Uz.off {U U' H : Nat → Int} {z z' h j : Nat} {k o n : Int} (hU : lq_Uz U H z) (hz : lq_zs z z' h) (r6 : rv_r6 H 0) (ok : lq_ok H k o n) (hj : j = (12 * k + o + 88).toNat) (u1 : ∀ i, i < 3 * z' → U' i = U (i + 3 * h)) (u2 : U' (3 * z') = k) (u3 : U' (3 * z' + 1) = o) (u4 : U' (3 * z' + 2) = H j) : lq_Uz U' (rv_up H j n) (z' + 1) ∧ lq_ct (fun i => rv_up H j n (88 + i)) 96 ≤ 40 := by
  obtain ⟨q1, q2, q3⟩ := hU
  obtain ⟨⟨k1, k2⟩, ⟨o1, o2⟩, ⟨n1, n2⟩, hc⟩ := ok
  have b8 := r6.1.1.2
  have b6 := r6.2.1 k.toNat o.toNat (by omega) (by omega)
  rw [show 0 + (88 + 12 * k.toNat + o.toNat) = j by omega] at b6
  have ct := q2.ct
  have hct : lq_ct (fun i => rv_up H j n (88 + i)) 96 ≤ 40 := by
    rw [lq_ct_s (by omega) (by omega)]
    rw [← hj] at hc
    split <;> split <;> omega
  have n0 : rv_up H j n 0 = H 0 := rv_up_n (by omega)
  have hb : ∀ i, i < 96 → rv_up (fun i => rv_up H j n (88 + i)) (12 * k + o).toNat (H j) i = H (88 + i) := by
    intro i hi
    by_cases e : i = (12 * k + o).toNat
    · rw [e, rv_up_s]; congr 1; omega
    · rw [rv_up_n e]; exact rv_up_n (by omega)
  have hs : lq_hs U' z' (fun i => H (88 + i)) := by
    rcases hz with ⟨z1, rfl, rfl⟩ | ⟨rfl, rfl, rfl⟩
    · exact q2.cg (fun i hi => (u1 i hi).trans (by rw [Nat.mul_zero, Nat.add_zero])) (fun _ _ => rfl)
    · exact (lq_hs.sh q2).cg (fun i hi => u1 i hi) (fun _ _ => rfl)
  refine ⟨⟨by rcases hz with ⟨z1, rfl, rfl⟩ | ⟨rfl, rfl, rfl⟩ <;> omega, ⟨hct, ?_⟩, fun i hi => ?_⟩, hct⟩
  · rw [u2, u3, u4]
    exact hs.cg (fun _ _ => rfl) hb
  · rw [n0]
    rcases Nat.lt_or_ge i z' with q | q
    · have hi3 : i + h < z := by rcases hz with ⟨z1, rfl, rfl⟩ | ⟨rfl, rfl, rfl⟩ <;> omega
      have := q3 (i + h) hi3
      rw [u1 (3 * i) (by omega), u1 (3 * i + 1) (by omega), u1 (3 * i + 2) (by omega)]
      rw [show 3 * i + 3 * h = 3 * (i + h) by omega, show 3 * i + 1 + 3 * h = 3 * (i + h) + 1 by omega, show 3 * i + 2 + 3 * h = 3 * (i + h) + 2 by omega]
      exact this
    · have e : i = z' := by omega
      subst e
      rw [u2, u3, u4]
      exact ⟨⟨k1, k2⟩, ⟨o1, by omega⟩, b6.1, b6.2.1⟩
theorem lq_Uz.back {U H : Nat → Int} {y j : Nat} (hU : lq_Uz U H (y + 1)) (hj : j = (88 + 12 * U (3 * y) + U (3 * y + 1)).toNat) (b8 : H 0 ≤ 8) : lq_Uz U (rv_up H j (U (3 * y + 2))) y ∧ lq_ct (fun i => rv_up H j (U (3 * y + 2)) (88 + i)) 96 ≤ 40 := by
  obtain ⟨q1, q2, q3⟩ := hU
  have b := q3 y (by omega)
  have n0 : rv_up H j (U (3 * y + 2)) 0 = H 0 := rv_up_n (by omega)
  have hs : lq_hs U y (fun i => rv_up H j (U (3 * y + 2)) (88 + i)) := q2.2.cg (fun _ _ => rfl) (fun i hi => by
    by_cases e : i = (12 * U (3 * y) + U (3 * y + 1)).toNat
    · rw [e, rv_up_s, show 88 + (12 * U (3 * y) + U (3 * y + 1)).toNat = j by omega, rv_up_s]
    · rw [rv_up_n e]; exact rv_up_n (by omega))
  refine ⟨⟨by omega, hs, fun i hi => ?_⟩, hs.ct⟩
  rw [n0]; exact q3 i (by omega)
section OU
variable {G : mj_G} {M M1 M2 M' : mj_M} {w : Nat → Nat} {x m s kp kc kr tp : Nat} {z1 z2 z3 : Int}
/-- between offer of the class and of the reference -/
def lq_o (w : Nat → Nat) (s m : Nat) (z1 z2 z3 : Int) (M M' : mj_M) (r : Int) : Prop := (¬ lq_ok (M.1 s) z1 z2 z3 ∧ r = 0 ∧ M' = M) ∨ (lq_ok (M.1 s) z1 z2 z3 ∧ r = 1 ∧ ∃ p q z z' h M1, lq_N M w p q ∧ M.1 m 28 = ((z : Nat) : Int) ∧ lq_zs z z' h ∧ lq_kp w z' h z1 z2 (M.1 s (12 * z1 + z2 + 88).toNat) M M1 ∧ lq_sb w p z1.toNat z2.toNat z3 M1 M')
theorem lq_of1 (gx : G x = (1011, 0)) (hJ : lq_J G M x s kp kc w) (hT : lq_T M s kp kr) (hU : lq_U G M x m s w) : mj_R mj_tab 40 136 [.inr (.inr (some x)), .inl z1, .inl z2, .inl z3] G M (fun r G' M' => G' = G ∧ ∃ y, r = some (.inl y) ∧ lq_o w s m z1 z2 z3 M M' y) := by
  obtain ⟨hA, hB, p, q, hN, h1, -⟩ := hJ
  obtain ⟨hUA, hUB, z, u1, u2, u3⟩ := hU
  exact r_X11_offer5 (d := 37) gx hA hB hN hUA hUB h1 hT.1.1.1 u2.1 u3.1 (fun no => ⟨rfl, 0, rfl, Or.inl ⟨no, rfl, rfl⟩⟩) (fun ok z' h' M1 M2 hz hk hs => ⟨rfl, 1, rfl, Or.inr ⟨ok, rfl, p, q, z, z', h', M1, hN, u1, hz, hk, hs⟩⟩)
theorem lq_of2 (gx : G x = (1011, 0)) (gm : G m = (1012, 0)) (gs : G s = (51100, 537)) (gk : G kp = (70100, 1076)) (gkc : G kc = (48102, 2)) (gkr : G kr = (72102, 2)) (m6 : M.2.2 m 6 = some s) (hJ : lq_J G M x s kp kc w) (hT : lq_T M s kp kr) (hU : lq_U G M x m s w) {y : Int} (ho : lq_o w s m z1 z2 z3 M M1 y) : mj_R mj_tab 40 220 [.inr (.inr (some m)), .inl z1, .inl z2, .inl z3] G M1 (fun r G' M' => G' = G ∧ r = some (.inl y) ∧ lq_J G M' x s kp kc w ∧ lq_T M' s kp kr ∧ lq_U G M' x m s w) := by
  obtain ⟨hUA, hUB, z, u1, u2, u3, u4⟩ := id hU
  obtain ⟨gud, gut, gum, gub, gun⟩ := id hUA
  have hA := hJ.1
  rcases ho with ⟨no, rfl, rfl⟩ | ⟨ok, rfl, p, q, z0, z', h, Mk, hN, e28, hz, hk, hs⟩
  · refine r_X12_offer5 (d := 37) gm gs gun m6 hUB.2.2.2.2 hT.1.1.1 (u2.2.1.ct) u2.1 u1 (fun _ => ⟨rfl, rfl, ?_, ?_, ?_⟩) (fun ok => absurd ok no)
    · exact hJ.of rfl (wz_c (hn_ne gk gm (by decide))) (wz_c (hn_ne gkc gm (by decide))) (fun p q hN h1 => h1.cg (lq_E6.p0 hA hN.pin.1 gm (by decide) (by decide) (by decide) (by decide)) (fun k _ => by rw [wz_c (hn_ne gs gm (by decide))])) (fun p q hN k _ => lq_E6.p0 hA (lq_ip_in k) gm (by decide) (by decide) (by decide) (by decide))
    · unfold lq_T
      rw [wz_c (hn_ne gs gm (by decide)), wz_c (hn_ne gk gm (by decide)), wz_c (hn_ne gkr gm (by decide))]; exact hT
    · refine ⟨hUA, hUB, z, (hn_n (Or.inr (by decide))).trans u1, ?_, ?_⟩
      · rw [wz_c (hn_ne gun gm (by decide)), wz_c (hn_ne gs gm (by decide))]; exact u2
      · unfold lq_Uc
        rw [wz_c (hn_ne gud gm (by decide)), wz_c (hn_ne gut gm (by decide)), wz_c (hn_ne gum gm (by decide)), wz_c (hn_ne gub gm (by decide)), wz_c (hn_ne gun gm (by decide))]; exact ⟨u3, u4⟩
  · have hz0 : z0 = z := by omega
    subst hz0
    have hp := hN.pin.1
    obtain ⟨gpl, -, -, -, -, -, gbr⟩ := hA.2.1 p hp
    have kk := ok
    obtain ⟨⟨k1, k2⟩, ⟨o1, o2⟩, ⟨n1, n2⟩, -⟩ := kk
    have b8 := hT.1.1.1.2
    have gr := gbr z1.toNat (by omega)
    obtain ⟨hk1, hk2, hk3, hk4, hk5, hk6, hk7⟩ := id hk
    obtain ⟨hs1, hs2, hs3, hs4, hs5⟩ := id hs
    have cc : ∀ {a t n : Nat}, G a = (t, n) → t ≠ 1009 → t ≠ 39100 → t ≠ 40100 → t ≠ 41100 → t ≠ 1004 → t ≠ 28100 → M1.1 a = M.1 a := fun ga a1 a2 a3 a4 a5 a6 => (hs2 _ (hn_ne ga gpl a5) (hn_ne ga gr a6)).trans (hk2 _ (hn_ne ga gud a1) (hn_ne ga gut a2) (hn_ne ga gum a3) (hn_ne ga gub a4))
    have es : M1.1 s = M.1 s := cc gs (by decide) (by decide) (by decide) (by decide) (by decide) (by decide)
    have em : M1.1 m = M.1 m := cc gm (by decide) (by decide) (by decide) (by decide) (by decide) (by decide)
    have eu : M1.1 (w 344) = M.1 (w 344) := cc gun (by decide) (by decide) (by decide) (by decide) (by decide) (by decide)
    have ek : M1.1 kp = M.1 kp := cc gk (by decide) (by decide) (by decide) (by decide) (by decide) (by decide)
    have ec : M1.1 kc = M.1 kc := cc gkc (by decide) (by decide) (by decide) (by decide) (by decide) (by decide)
    have er : M1.1 kr = M.1 kr := cc gkr (by decide) (by decide) (by decide) (by decide) (by decide) (by decide)
    have e2 : M1.2 = M.2 := hs1.trans hk1
    have jj : 88 + 12 * z1.toNat + z2.toNat = (12 * z1 + z2 + 88).toNat := by omega
    refine r_X12_offer5 (d := 37) (z := z0) gm gs gun (by rw [e2]; exact m6) (by rw [e2]; exact hUB.2.2.2.2) (by rw [es]; exact hT.1.1.1) (by rw [es]; exact u2.2.1.ct) u2.1 (by rw [em]; exact u1) (fun no => absurd (by rw [es]; exact ok) no) (fun _ z9 h9 M3 hz9 hr => ?_)
    have hzz : z9 = z' ∧ h9 = h := by
      rcases hz with ⟨a1, rfl, rfl⟩ | ⟨a1, rfl, rfl⟩ <;> rcases hz9 with ⟨b1, rfl, rfl⟩ | ⟨b1, rfl, rfl⟩ <;> omega
    obtain ⟨rfl, rfl⟩ := hzz
    obtain ⟨r1, r2, r3, r4, r5, r6, r7, r8⟩ := hr
    have c3 : ∀ {a t n : Nat}, G a = (t, n) → t ≠ 1012 → t ≠ 57100 → t ≠ 51100 → M3.1 a = M1.1 a := fun ga a1 a2 a3 => r2 _ (hn_ne ga gm a1) (hn_ne ga gun a2) (hn_ne ga gs a3)
    have E1 : ∀ R, R ∈ lq_Ps → lq_E6 w R M Mk := fun R hR => lq_E6.by hA hR (fun u a b => hk2 _ (hA.ne hR gud (by decide) (by decide) (by decide) (by decide) (by decide) (by decide) (by decide) u a b) (hA.ne hR gut (by decide) (by decide) (by decide) (by decide) (by decide) (by decide) (by decide) u a b) (hA.ne hR gum (by decide) (by decide) (by decide) (by decide) (by decide) (by decide) (by decide) u a b) (hA.ne hR gub (by decide) (by decide) (by decide) (by decide) (by decide) (by decide) (by decide) u a b))
    have E3 : ∀ R, R ∈ lq_Ps → lq_E6 w R M1 M3 := fun R hR => lq_E6.by hA hR (fun u a b => r2 _ (hA.ne hR gm (by decide) (by decide) (by decide) (by decide) (by decide) (by decide) (by decide) u a b) (hA.ne hR gun (by decide) (by decide) (by decide) (by decide) (by decide) (by decide) (by decide) u a b) (hA.ne hR gs (by decide) (by decide) (by decide) (by decide) (by decide) (by decide) (by decide) u a b))
    have s3 : M3.1 s = rv_up (M.1 s) (12 * z1 + z2 + 88).toNat z3 := by rw [r8, es]
    have UU := u2.off (U' := M3.1 (w 344)) hz hT.1 ok rfl (fun i hi => by rw [r4 i hi, eu]) r5 r6 (by rw [r7, es])
    refine ⟨rfl, rfl, ?_, ⟨?_, fun k hk h0 => ?_⟩, hUA, ?_, _, r3, ?_, ?_⟩
    · refine hJ.of (by rw [r1, e2]) ((c3 gk (by decide) (by decide) (by decide)).trans ek) ((c3 gkc (by decide) (by decide) (by decide)).trans ec) (fun p9 q9 hN9 h1 => ?_) (fun p9 q9 hN9 k _ => ?_)
      · have hpp : p9 = p := by
          have := hN9.1.symm.trans hN.1
          have := hA.1 _ _ (by have := lq_P4 hN9.pin.1; omega) (by have := lq_P4 hp; omega) (Option.some.inj this)
          exact this
        subst hpp
        have G1 := (h1.cg (E1 p9 hp) (fun _ _ => rfl)).set hA hp (by omega) (by omega) hs
        rw [jj] at G1
        rw [s3]
        exact G1.cg (E3 p9 hp) (fun _ _ => rfl)
      · exact ((E1 _ (lq_ip_in k)).tr (hs.E hA hp (by omega) (lq_ip_in k) (fun e => hN.pin.2 k e.symm))).tr (E3 _ (lq_ip_in k))
    · rw [s3]
      exact hT.1.set (by omega) (by omega) ⟨n1, n2⟩ (by omega) UU.2
    · rw [(c3 gkr (by decide) (by decide) (by decide)).trans er] at h0
      rw [(c3 gk (by decide) (by decide) (by decide)).trans ek]
      exact hT.2 k hk h0
    · unfold lq_UB; rw [r1, e2]; exact hUB
    · rw [s3]; exact UU.1
    · have v1 : M3.1 (w 121) = Mk.1 (w 121) := (c3 gud (by decide) (by decide) (by decide)).trans (hs2 _ (hn_ne gud gpl (by decide)) (hn_ne gud gr (by decide)))
      have v2 : M3.1 (w 122) = Mk.1 (w 122) := (c3 gut (by decide) (by decide) (by decide)).trans (hs2 _ (hn_ne gut gpl (by decide)) (hn_ne gut gr (by decide)))
      have v3 : M3.1 (w 123) = Mk.1 (w 123) := (c3 gum (by decide) (by decide) (by decide)).trans (hs2 _ (hn_ne gum gpl (by decide)) (hn_ne gum gr (by decide)))
      have v4 : M3.1 (w 124) = Mk.1 (w 124) := (c3 gub (by decide) (by decide) (by decide)).trans (hs2 _ (hn_ne gub gpl (by decide)) (hn_ne gub gr (by decide)))
      refine ⟨by rw [v1]; exact hk3, fun i hi => ?_⟩
      rw [v2, v3, v4]
      rcases Nat.lt_or_ge i z9 with a | a
      · obtain ⟨l1, l2, l3⟩ := hk4 i a
        have hi3 : i + h9 < z0 := by rcases hz with ⟨b1, rfl, rfl⟩ | ⟨b1, rfl, rfl⟩ <;> omega
        obtain ⟨m1, m2, m3⟩ := u4 (i + h9) hi3
        rw [l1, l2, l3, r4 _ (by omega), r4 _ (by omega), r4 _ (by omega), eu]
        rw [show 3 * i + 3 * h9 = 3 * (i + h9) by omega, show 3 * i + 1 + 3 * h9 = 3 * (i + h9) + 1 by omega, show 3 * i + 2 + 3 * h9 = 3 * (i + h9) + 2 by omega]
        exact ⟨m1, m2, m3⟩
      · have e : i = z9 := by omega
        subst e
        rw [r5, r6, r7, es]
        exact ⟨hk5, hk6, hk7⟩
/-- between undo of the class and of the reference -/
def lq_v (w : Nat → Nat) (m : Nat) (M M' : mj_M) (r : Int) : Prop := (M.1 m 28 = 0 ∧ r = -1 ∧ M' = M) ∨ (∃ y p q : Nat, M.1 m 28 = ((y + 1 : Nat) : Int) ∧ r = (y : Int) ∧ lq_N M w p q ∧ lq_sb w p (M.1 (w 344) (3 * y)).toNat (M.1 (w 344) (3 * y + 1)).toNat (M.1 (w 344) (3 * y + 2)) (mj_p0 M (w 121) 3 (y : Int)) M')
theorem lq_un1 (gx : G x = (1011, 0)) (hJ : lq_J G M x s kp kc w) (hT : lq_T M s kp kr) (hU : lq_U G M x m s w) : mj_R mj_tab 40 154 [.inr (.inr (some x))] G M (fun r G' M' => G' = G ∧ ∃ y, r = some (.inl y) ∧ lq_v w m M M' y) := by
  obtain ⟨hA, hB, p, q, hN, h1, -⟩ := hJ
  obtain ⟨hUA, hUB, z, u1, u2, u3, u4⟩ := hU
  have b8 := hT.1.1.1.2
  have cb := lq_ct_b (fun i => M.1 s (0 + (88 + i))) 96
  have c5 := h1.2.2
  refine r_X11_undo5 (s := s) (d := 37) gx hA hB hN hUA hUB u2.1 u3 (by omega) (by omega) (fun i hi => ?_) (fun e => ⟨rfl, -1, rfl, Or.inl ⟨by rw [u1, e]; rfl, rfl, rfl⟩⟩) (fun y e M2 hs => ⟨rfl, (y : Int), rfl, Or.inr ⟨y, p, q, by rw [u1, e], rfl, hN, ?_⟩⟩)
  · obtain ⟨a1, a2, -⟩ := u4 i hi
    have b := u2.2.2 i hi
    rw [a1, a2]; omega
  · obtain ⟨a1, a2, a3⟩ := u4 y (by omega)
    rw [a1, a2, a3] at hs; exact hs
theorem lq_un2 (gx : G x = (1011, 0)) (gm : G m = (1012, 0)) (gs : G s = (51100, 537)) (gk : G kp = (70100, 1076)) (gkc : G kc = (48102, 2)) (gkr : G kr = (72102, 2)) (m6 : M.2.2 m 6 = some s) (hJ : lq_J G M x s kp kc w) (hT : lq_T M s kp kr) (hU : lq_U G M x m s w) {y0 : Int} (ho : lq_v w m M M1 y0) : mj_R mj_tab 40 253 [.inr (.inr (some m))] G M1 (fun r G' M' => G' = G ∧ r = some (.inl y0) ∧ lq_J G M' x s kp kc w ∧ lq_T M' s kp kr ∧ lq_U G M' x m s w) := by
  obtain ⟨hUA, hUB, z, u1, u2, u3, u4⟩ := id hU
  obtain ⟨gud, gut, gum, gub, gun⟩ := id hUA
  have hA := hJ.1
  have b8 := hT.1.1.1.2
  have bnd : ∀ i, i < z → (0 ≤ M.1 (w 344) (3 * i) ∧ M.1 (w 344) (3 * i) < 8) ∧ (0 ≤ M.1 (w 344) (3 * i + 1) ∧ M.1 (w 344) (3 * i + 1) < 12) := fun i hi => by have b := u2.2.2 i hi; omega
  rcases ho with ⟨e0, rfl, rfl⟩ | ⟨y, p, q, e28, rfl, hN, hs⟩
  · refine r_X12_undo5 (d := 39) gm gs gun m6 hUB.2.2.2.2 u2.1 u1 bnd (fun _ => ⟨rfl, rfl, ?_, ?_, ?_⟩) (fun y e => by omega)
    · exact hJ.of rfl (wz_c (hn_ne gk gm (by decide))) (wz_c (hn_ne gkc gm (by decide))) (fun p q hN h1 => h1.cg (lq_E6.p0 hA hN.pin.1 gm (by decide) (by decide) (by decide) (by decide)) (fun k _ => by rw [wz_c (hn_ne gs gm (by decide))])) (fun p q hN k _ => lq_E6.p0 hA (lq_ip_in k) gm (by decide) (by decide) (by decide) (by decide))
    · unfold lq_T
      rw [wz_c (hn_ne gs gm (by decide)), wz_c (hn_ne gk gm (by decide)), wz_c (hn_ne gkr gm (by decide))]; exact hT
    · refine ⟨hUA, hUB, z, (hn_n (Or.inr (by decide))).trans u1, ?_, ?_⟩
      · rw [wz_c (hn_ne gun gm (by decide)), wz_c (hn_ne gs gm (by decide))]; exact u2
      · unfold lq_Uc
        rw [wz_c (hn_ne gud gm (by decide)), wz_c (hn_ne gut gm (by decide)), wz_c (hn_ne gum gm (by decide)), wz_c (hn_ne gub gm (by decide)), wz_c (hn_ne gun gm (by decide))]; exact ⟨u3, u4⟩
  · have hzy : z = y + 1 := by omega
    subst hzy
    have by_ := bnd y (by omega)
    have b3 := u2.2.2 y (by omega)
    have hp := hN.pin.1
    obtain ⟨gpl, -, -, -, -, -, gbr⟩ := hA.2.1 p hp
    have gr := gbr (M.1 (w 344) (3 * y)).toNat (by omega)
    obtain ⟨hs1, hs2, hs3, hs4, hs5⟩ := id hs
    have cc : ∀ {a t n : Nat}, G a = (t, n) → t ≠ 1009 → t ≠ 1004 → t ≠ 28100 → M1.1 a = M.1 a := fun ga a1 a5 a6 => (hs2 _ (hn_ne ga gpl a5) (hn_ne ga gr a6)).trans (wz_c (hn_ne ga gud a1))
    have es : M1.1 s = M.1 s := cc gs (by decide) (by decide) (by decide)
    have em : M1.1 m = M.1 m := cc gm (by decide) (by decide) (by decide)
    have eu : M1.1 (w 344) = M.1 (w 344) := cc gun (by decide) (by decide) (by decide)
    have e2 : M1.2 = M.2 := hs1
    have ns : s ≠ m := hn_ne gs gm (by decide)
    have jj : 88 + 12 * (M.1 (w 344) (3 * y)).toNat + (M.1 (w 344) (3 * y + 1)).toNat = (88 + 12 * M.1 (w 344) (3 * y) + M.1 (w 344) (3 * y + 1)).toNat := by omega
    refine r_X12_undo5 (d := 39) (z := y + 1) gm gs gun (by rw [e2]; exact m6) (by rw [e2]; exact hUB.2.2.2.2) u2.1 (by rw [em]; exact u1) (by rw [eu]; exact bnd) (fun e => by omega) (fun y9 e9 => ?_)
    have : y9 = y := by omega
    subst this
    rw [eu]
    have c3 : ∀ {a t n : Nat} {i v b j : Int} , G a = (t, n) → t ≠ 1012 → t ≠ 51100 → (mj_p0 (mj_p0 (mj_p0 M1 m 0 i) m 28 v) s j.toNat b).1 a = M1.1 a := fun ga a1 a3 => (wz_c (hn_ne ga gs a3)).trans ((wz_c (hn_ne ga gm a1)).trans (wz_c (hn_ne ga gm a1)))
    have E1 : ∀ R, R ∈ lq_Ps → lq_E6 w R M (mj_p0 M (w 121) 3 (y9 : Int)) := fun R hR => lq_E6.p0 hA hR gud (by decide) (by decide) (by decide) (by decide)
    have E3 : ∀ {i v b j : Int} R, R ∈ lq_Ps → lq_E6 w R M1 (mj_p0 (mj_p0 (mj_p0 M1 m 0 i) m 28 v) s j.toNat b) := fun R hR => lq_E6.by hA hR (fun u a b => (wz_c (hA.ne hR gs (by decide) (by decide) (by decide) (by decide) (by decide) (by decide) (by decide) u a b)).trans ((wz_c (hA.ne hR gm (by decide) (by decide) (by decide) (by decide) (by decide) (by decide) (by decide) u a b)).trans (wz_c (hA.ne hR gm (by decide) (by decide) (by decide) (by decide) (by decide) (by decide) (by decide) u a b))))
    have s3 : (mj_p0 (mj_p0 (mj_p0 M1 m 0 0) m 28 (y9 : Int)) s (88 + 12 * M.1 (w 344) (3 * y9) + M.1 (w 344) (3 * y9 + 1)).toNat (M.1 (w 344) (3 * y9 + 2))).1 s = rv_up (M.1 s) (88 + 12 * M.1 (w 344) (3 * y9) + M.1 (w 344) (3 * y9 + 1)).toNat (M.1 (w 344) (3 * y9 + 2)) := by
      funext i
      by_cases e : i = (88 + 12 * M.1 (w 344) (3 * y9) + M.1 (w 344) (3 * y9 + 1)).toNat
      · subst e; rw [rv_up_s]; exact hn_s
      · rw [rv_up_n e]; exact (hn_n (Or.inr e)).trans ((hn_n (Or.inl ns)).trans ((hn_n (Or.inl ns)).trans (by rw [es])))
    have UU := u2.back rfl (by omega)
    refine ⟨rfl, rfl, ?_, ⟨?_, fun k hk h0 => ?_⟩, hUA, ?_, y9, (hn_n (Or.inl (Ne.symm ns))).trans hn_s, ?_, ?_⟩
    · refine hJ.of (by show M1.2.2 = _; rw [e2]) ((c3 gk (by decide) (by decide)).trans (cc gk (by decide) (by decide) (by decide))) ((c3 gkc (by decide) (by decide)).trans (cc gkc (by decide) (by decide) (by decide))) (fun p9 q9 hN9 h1 => ?_) (fun p9 q9 hN9 k _ => ?_)
      · have hpp : p9 = p := by
          have := hN9.1.symm.trans hN.1
          have := hA.1 _ _ (by have := lq_P4 hN9.pin.1; omega) (by have := lq_P4 hp; omega) (Option.some.inj this)
          exact this
        subst hpp
        have G1 := (h1.cg (E1 p9 hp) (fun _ _ => rfl)).set hA hp (by omega) (by omega) hs
        rw [jj] at G1
        rw [s3]
        exact G1.cg (E3 p9 hp) (fun _ _ => rfl)
      · exact ((E1 _ (lq_ip_in k)).tr (hs.E hA hp (by omega) (lq_ip_in k) (fun e => hN.pin.2 k e.symm))).tr (E3 _ (lq_ip_in k))
    · rw [s3]
      exact hT.1.set (by omega) (by omega) ⟨b3.2.2.1, b3.2.2.2⟩ (by omega) UU.2
    · rw [(c3 gkr (by decide) (by decide)).trans (cc gkr (by decide) (by decide) (by decide))] at h0
      rw [(c3 gk (by decide) (by decide)).trans (cc gk (by decide) (by decide) (by decide))]
      exact hT.2 k hk h0
    · unfold lq_UB; show _ ∧ _; rw [show (mj_p0 (mj_p0 (mj_p0 M1 m 0 0) m 28 (y9 : Int)) s (88 + 12 * M.1 (w 344) (3 * y9) + M.1 (w 344) (3 * y9 + 1)).toNat (M.1 (w 344) (3 * y9 + 2))).2.2 = M.2.2 from congrArg Prod.snd e2]; exact hUB
    · rw [s3, (c3 gun (by decide) (by decide)).trans eu]; exact UU.1
    · refine ⟨?_, fun i hi => ?_⟩
      · rw [c3 gud (by decide) (by decide), hs2 _ (hn_ne gud gpl (by decide)) (hn_ne gud gr (by decide))]; exact hn_s
      · rw [(c3 gut (by decide) (by decide)).trans (cc gut (by decide) (by decide) (by decide)), (c3 gum (by decide) (by decide)).trans (cc gum (by decide) (by decide) (by decide)), (c3 gub (by decide) (by decide)).trans (cc gub (by decide) (by decide) (by decide)), (c3 gun (by decide) (by decide)).trans eu]
        exact u4 i (by omega)
end OU
end
section
/-! ===== the loop's invariant: tapes, images' marks, PLAINS with bids, what can be undone ===== -/
abbrev lq_8d (W : List (Nat × Nat × Nat)) : Prop := lq_9c W ∧ ∀ q ∈ W, q.1 ≠ 48102 ∧ q.1 ≠ 70100
abbrev lq_Ud (W : List (Nat × Nat × Nat)) : Prop := lq_Uo W ∧ ∀ q ∈ W, ¬ (q.1 = 1009 ∧ q.2.1 ≤ 3) ∧ ¬ (q.1 = 1012 ∧ q.2.1 ≤ 28 ∧ 28 ≤ q.2.2)
def lp_R (G : mj_G) (M : mj_M) (x m s kp kc kr : Nat) (w : Nat → Nat) : Prop := lw_K G M x m kc kr ∧ lq_mk M kc kr ∧ lq_J G M x s kp kc w ∧ lq_T M s kp kr ∧ lq_U G M x m s w
abbrev lp_Rd (W : List (Nat × Nat × Nat)) : Prop := lw_kx W = true ∧ lq_8d W ∧ (∀ q ∈ W, q.1 ≠ 72102) ∧ lq_Ud W
abbrev lp_Rc (W : List (Nat × Nat × Nat)) : Prop := lp_Rd W ∧ ∀ q ∈ W, ¬ (q.1 = 51100 ∧ q.2.1 < 184)
def lp_I (G : mj_G) (M : mj_M) (x m tp s kp bc bt kc kr : Nat) (w : Nat → Nat) : Prop := ((lw_V G M x m tp s kp ∧ M.1 tp 1 = M.1 m 2) ∧ lp_6 G M tp m bc bt ∧ M.1 bc = M.1 bt) ∧ lp_R G M x m s kp kc kr w
theorem lp_ok5 : an_ok mj_tab 40 127 = true ∧ an_ok mj_tab 40 144 = true ∧ an_ok mj_tab 40 157 = true ∧ an_ok mj_tab 40 110 = true ∧ an_ok mj_tab 40 162 = true := by decide +kernel
theorem lp_ok6 : an_ok mj_tab 40 136 = true ∧ an_ok mj_tab 40 220 = true ∧ an_ok mj_tab 40 154 = true ∧ an_ok mj_tab 40 253 = true ∧ an_ok mj_tab 40 259 = true ∧ an_ok mj_tab 40 215 = true := by decide +kernel
section PI
variable {G : mj_G} {M M' : mj_M} {x m tp s kp bc bt kc kr : Nat} {w : Nat → Nat} {W : List (Nat × Nat × Nat)}
theorem lp_mk_go (h : lq_mk M kc kr) (gc : G kc = (48102, 2)) (gr : G kr = (72102, 2)) (f : ab_frm W G M M') (c1 : ∀ q ∈ W, q.1 ≠ 48102) (c2 : ∀ q ∈ W, q.1 ≠ 72102) : lq_mk M' kc kr := fun k hk => by
  have e1 : M'.1 kc k = M.1 kc k := (f kc k (by rw [gc]; rintro ⟨q, hq, e1, -⟩; exact c1 q hq e1)).1
  have e2 : M'.1 kr k = M.1 kr k := (f kr k (by rw [gr]; rintro ⟨q, hq, e1, -⟩; exact c2 q hq e1)).1
  rw [e1, e2]; exact h k hk
theorem lp_es (gs : G s = (51100, 537)) (f : ab_frm W G M M') (c : ∀ q ∈ W, ¬ (q.1 = 51100 ∧ q.2.1 < 88)) (h : ∀ j, 88 ≤ j → j < 184 → M'.1 s j = M.1 s j) : ∀ k, k < 184 → M'.1 s k = M.1 s k := fun k hk => by
  rcases Nat.lt_or_ge k 88 with q | q
  · exact (f _ k (by rw [gs]; rintro ⟨r, hr, e1, e2, e3⟩; exact c r hr ⟨e1, by omega⟩)).1
  · exact h k q hk
theorem lp_es2 (gs : G s = (51100, 537)) (f : ab_frm W G M M') (c : ∀ q ∈ W, ¬ (q.1 = 51100 ∧ q.2.1 < 184)) : ∀ k, k < 184 → M'.1 s k = M.1 s k := fun k hk =>
  (f _ k (by rw [gs]; rintro ⟨r, hr, e1, e2, e3⟩; exact c r hr ⟨e1, by omega⟩)).1
theorem lq_J.ge (h : lq_J G M x s kp kc w) (gx : G x = (1011, 0)) (gk : G kp = (70100, 1076)) (gc : G kc = (48102, 2)) (f : ab_frm W G M M') (c : lq_8d W) (es : ∀ k, k < 184 → M'.1 s k = M.1 s k) : lq_J G M' x s kp kc w := by
  obtain ⟨hA, hB, p, q, hN, h1, h2⟩ := h
  have ek : ∀ k, M'.1 kp k = M.1 kp k := fun k => (f _ k (by
    rw [gk]; rintro ⟨r, hr, e1, e2, e3⟩; exact (c.2 r hr).2 e1)).1
  have ec : ∀ k, M'.1 kc k = M.1 kc k := fun k => (f _ k (by
    rw [gc]; rintro ⟨r, hr, e1, e2, e3⟩; exact (c.2 r hr).1 e1)).1
  refine ⟨hA, hB.go hA gx f c.1, p, q, hN.go hA f c.1, h1.cg (lq_E6.go hA hN.pin.1 f c.1) (fun k hk => by rw [Nat.zero_add]; exact es k hk), fun k hk h0 => ?_⟩
  rw [ec k] at h0
  exact (h2 k hk h0).cg (lq_E6.go hA (lq_ip_in k) f c.1) (fun j _ => ek _)
theorem lq_T.ge (h : lq_T M s kp kr) (gk : G kp = (70100, 1076)) (gr : G kr = (72102, 2)) (f : ab_frm W G M M') (c2 : ∀ q ∈ W, q.1 ≠ 70100) (c3 : ∀ q ∈ W, q.1 ≠ 72102) (es : ∀ k, k < 184 → M'.1 s k = M.1 s k) : lq_T M' s kp kr := by
  have ek : ∀ k, M'.1 kp k = M.1 kp k := fun k => (f _ k (by
    rw [gk]; rintro ⟨r, hr, e1, e2, e3⟩; exact c2 r hr e1)).1
  have er : ∀ k, M'.1 kr k = M.1 kr k := fun k => (f _ k (by
    rw [gr]; rintro ⟨r, hr, e1, e2, e3⟩; exact c3 r hr e1)).1
  refine ⟨h.1.cg (fun k hk => by rw [Nat.zero_add]; exact es k hk), fun k hk h0 => ?_⟩
  rw [er k] at h0
  exact (h.2 k hk h0).cg (fun j _ => ek _)
theorem lq_U.ge (h : lq_U G M x m s w) (gx : G x = (1011, 0)) (gm : G m = (1012, 0)) (f : ab_frm W G M M') (c : lq_Ud W) (es : ∀ k, k < 184 → M'.1 s k = M.1 s k) : lq_U G M' x m s w := by
  obtain ⟨hA, hB, z, z1, z2, z3, z4⟩ := h
  obtain ⟨a1, a2, a3, a4⟩ := hA.ar f c.1
  refine ⟨hA, hB.go hA gx gm f c.1, z, (f _ _ ?_).1.trans z1, z2.cg (fun i _ => by rw [a4]) (es 0 (by decide)) (fun i hi => es _ (by omega)), (f _ _ ?_).1.trans z3, fun i hi => ?_⟩
  · rw [gm]; rintro ⟨r, hr, e1, e2, e3⟩; exact (c.2 r hr).2 ⟨e1, e2, e3⟩
  · rw [hA.1]; rintro ⟨r, hr, e1, e2, e3⟩; exact (c.2 r hr).1 ⟨e1, e2⟩
  · rw [a1, a2, a3, a4]; exact z4 i hi
theorem lq_T.pl {y : rv_Om} (h : lq_T M s kp kr) (gk : G kp = (70100, 1076)) (gr : G kr = (72102, 2)) (f : ab_frm W G M M') (c2 : ∀ q ∈ W, q.1 ≠ 70100) (c3 : ∀ q ∈ W, q.1 ≠ 72102) (o1 : ∀ e, y = .inl e → M'.1 s = M.1 s) (o2 : ∀ PL WA OA TO BI nm r, y = .inr (PL, WA, OA, TO, BI, nm, r) → (∃ ns, rv_QO s ns PL WA TO BI nm M') ∧ rv_ps PL WA TO BI) : lq_T M' s kp kr := by
  have ek : ∀ k, M'.1 kp k = M.1 kp k := fun k => (f _ k (by
    rw [gk]; rintro ⟨r, hr, e1, e2, e3⟩; exact c2 r hr e1)).1
  have er : ∀ k, M'.1 kr k = M.1 kr k := fun k => (f _ k (by
    rw [gr]; rintro ⟨r, hr, e1, e2, e3⟩; exact c3 r hr e1)).1
  refine ⟨?_, fun k hk h0 => ?_⟩
  · rcases y with e | ⟨PL', WA', OA', TO', BI', nm', r'⟩
    · rw [o1 e rfl]; exact h.1
    · obtain ⟨⟨ns, q, -⟩, hp⟩ := o2 _ _ _ _ _ _ _ rfl
      exact rv_r6.of q hp
  · rw [er k] at h0
    exact (h.2 k hk h0).cg (fun j _ => ek _)
theorem lq_T.img {z1 : Int} (h : lq_T M s kp kr) (gs : G s = (51100, 537)) (f : ab_frm hn_WI G M M') (o : (¬ (0 ≤ z1 ∧ z1 ≤ 1) ∧ (∀ q, M'.1 kr q = M.1 kr q) ∧ M'.1 kp = M.1 kp) ∨ (∃ k : Nat, k ≤ 1 ∧ z1 = (k : Int) ∧ M'.1 kr k = 1 ∧ (∀ q, q ≠ k → M'.1 kr q = M.1 kr q) ∧ (∀ p, p < 537 → M'.1 kp (538 * k + p) = M.1 s p) ∧ (∀ q, q < 538 * k ∨ 538 * k + 538 ≤ q → M'.1 kp q = M.1 kp q))) : lq_T M' s kp kr := by
  have es : M'.1 s = M.1 s := funext fun k => (f s k (by rw [gs]; exact hn_nt (by decide))).1
  refine ⟨by rw [es]; exact h.1, fun k hk h0 => ?_⟩
  rcases o with ⟨n1, n2, n3⟩ | ⟨k0, j1, j2, j3, j4, j5, j6⟩
  · rw [n2] at h0; rw [n3]; exact h.2 k hk h0
  · by_cases e : k = k0
    · subst e
      exact h.1.cg (fun i hi => by rw [Nat.zero_add]; exact j5 i (by omega))
    · rw [j4 k e] at h0
      exact (h.2 k hk h0).cg (fun i hi => j6 _ (by omega))
theorem lq_T.rst {z1 : Int} (h : lq_T M s kp kr) (gk : G kp = (70100, 1076)) (gkr : G kr = (72102, 2)) (f : ab_frm hn_WR G M M') (o : ((¬ (0 ≤ z1 ∧ z1 ≤ 1) ∨ M.1 kr z1.toNat = 0) ∧ M'.1 s = M.1 s) ∨ (∃ k : Nat, k ≤ 1 ∧ z1 = (k : Int) ∧ M.1 kr k ≠ 0 ∧ (∀ p, p < 537 → M'.1 s p = M.1 kp (538 * k + p)))) : lq_T M' s kp kr := by
  have ek : M'.1 kp = M.1 kp := funext fun k => (f kp k (by rw [gk]; exact hn_nt (by decide))).1
  have er : M'.1 kr = M.1 kr := funext fun k => (f kr k (by rw [gkr]; exact hn_nt (by decide))).1
  refine ⟨?_, fun k hk h0 => by rw [er] at h0; rw [ek]; exact h.2 k hk h0⟩
  rcases o with ⟨n1, n2⟩ | ⟨k0, j1, j2, j3, j4⟩
  · rw [n2]; exact h.1
  · exact (h.2 k0 (by omega) j3).cg (fun i hi => by rw [Nat.zero_add]; exact j4 i (by omega))
/-- what can be undone between plain of the class and of the reference -/
def lq_up (G : mj_G) (M : mj_M) (x m s : Nat) (w : Nat → Nat) (y : rv_Om) : Prop := lq_UA G w ∧ lq_UB M w x m ∧ (∀ e, y = .inl e → lq_U G M x m s w) ∧ (∀ e, y = .inr e → M.1 (w 121) 3 = 0)
theorem lq_up1 {y : rv_Om} (hU : lq_U G M x m s w) (gx : G x = (1011, 0)) (gm : G m = (1012, 0)) (gs : G s = (51100, 537)) (f : ab_frm W G M M') (c : lq_Uo W) (c2 : ∀ q ∈ W, q.1 ≠ 1012 ∧ q.1 ≠ 51100) (o1 : ∀ e, y = .inl e → M'.1 (w 121) = M.1 (w 121)) (o2 : ∀ e, y = .inr e → M'.1 (w 121) 3 = 0) : lq_up G M' x m s w y := by
  obtain ⟨hA, hB, z, z1, z2, z3, z4⟩ := hU
  obtain ⟨a1, a2, a3, a4⟩ := hA.ar f c
  have B' := hB.go hA gx gm f c
  have es : ∀ k, M'.1 s k = M.1 s k := fun k => (f _ k (by
    rw [gs]; rintro ⟨r, hr, e1, -⟩; exact (c2 r hr).2 e1)).1
  refine ⟨hA, B', fun e he => ⟨hA, B', z, (f _ _ ?_).1.trans z1, z2.cg (fun i _ => by rw [a4]) (es 0) (fun i hi => es _), by rw [o1 e he]; exact z3, fun i hi => ?_⟩, o2⟩
  · rw [gm]; rintro ⟨r, hr, e1, -⟩; exact (c2 r hr).1 e1
  · rw [a1, a2, a3, a4]; exact z4 i hi
theorem lq_up2 {y : rv_Om} (h : lq_up G M x m s w y) (gx : G x = (1011, 0)) (gm : G m = (1012, 0)) (f : ab_frm W G M M') (c : lq_Uo W) (c2 : ∀ q ∈ W, q.1 ≠ 1009) (o1 : ∀ e, y = .inl e → M'.1 s = M.1 s ∧ M'.1 m 28 = M.1 m 28) (o2 : ∀ e, y = .inr e → M'.1 m 28 = 0) (r6 : rv_r6 (M'.1 s) 0) : lq_U G M' x m s w := by
  obtain ⟨hA, hB, h1, h2⟩ := h
  obtain ⟨a1, a2, a3, a4⟩ := hA.ar f c
  have B' := hB.go hA gx gm f c
  have eu : M'.1 (w 121) 3 = M.1 (w 121) 3 := (f _ _ (by
    rw [hA.1]; rintro ⟨r, hr, e1, -⟩; exact c2 r hr e1)).1
  rcases y with e | e
  · obtain ⟨-, -, z, z1, z2, z3, z4⟩ := h1 e rfl
    obtain ⟨s1, s2⟩ := o1 e rfl
    exact ⟨hA, B', z, s2.trans z1, z2.cg (fun i _ => by rw [a4]) (by rw [s1]) (fun i hi => by rw [s1]), eu.trans z3, fun i hi => by rw [a1, a2, a3, a4]; exact z4 i hi⟩
  · have ct := r6.2.2
    rw [lq_ct_cg (g := fun i => M'.1 s (88 + i)) 96 (fun i hi => by rw [Nat.zero_add])] at ct
    exact ⟨hA, B', 0, o2 e rfl, lq_Uz.no ct, eu.trans (h2 e rfl), fun i hi => absurd hi (Nat.not_lt_zero i)⟩
/-- and between restore of both sides -/
def lq_ur (G : mj_G) (M : mj_M) (x m s kc : Nat) (w : Nat → Nat) (z1 : Int) : Prop := lq_UA G w ∧ lq_UB M w x m ∧ ((∀ k : Nat, k < 2 → z1 = (k : Int) → M.1 kc k = 0) → lq_U G M x m s w) ∧ (∀ k : Nat, k < 2 → z1 = (k : Int) → M.1 kc k ≠ 0 → M.1 (w 121) 3 = 0)
theorem lq_ur1 {z1 : Int} (hU : lq_U G M x m s w) (gx : G x = (1011, 0)) (gm : G m = (1012, 0)) (gs : G s = (51100, 537)) (gkc : G kc = (48102, 2)) (f : ab_frm W G M M') (c : lq_Uo W) (c2 : ∀ q ∈ W, q.1 ≠ 1012 ∧ q.1 ≠ 51100 ∧ q.1 ≠ 48102) (o1 : (∀ k : Nat, k < 2 → z1 = (k : Int) → M.1 kc k = 0) → M'.1 (w 121) = M.1 (w 121)) (o2 : ∀ k : Nat, k < 2 → z1 = (k : Int) → M.1 kc k ≠ 0 → M'.1 (w 121) 3 = 0) : lq_ur G M' x m s kc w z1 := by
  obtain ⟨hA, hB, z, h1, h2, h3, h4⟩ := hU
  obtain ⟨a1, a2, a3, a4⟩ := hA.ar f c
  have B' := hB.go hA gx gm f c
  have es : ∀ k, M'.1 s k = M.1 s k := fun k => (f _ k (by
    rw [gs]; rintro ⟨r, hr, e1, -⟩; exact (c2 r hr).2.1 e1)).1
  have ec : ∀ k, M'.1 kc k = M.1 kc k := fun k => (f _ k (by
    rw [gkc]; rintro ⟨r, hr, e1, -⟩; exact (c2 r hr).2.2 e1)).1
  refine ⟨hA, B', fun hn => ⟨hA, B', z, (f _ _ ?_).1.trans h1, h2.cg (fun i _ => by rw [a4]) (es 0) (fun i hi => es _), ?_, fun i hi => ?_⟩, fun k hk e hc => o2 k hk e (by rw [← ec k]; exact hc)⟩
  · rw [gm]; rintro ⟨r, hr, e1, -⟩; exact (c2 r hr).1 e1
  · rw [o1 (fun k hk e => by rw [← ec k]; exact hn k hk e)]; exact h3
  · rw [a1, a2, a3, a4]; exact h4 i hi
theorem lq_ur2 {z1 : Int} (h : lq_ur G M x m s kc w z1) (hmk : lq_mk M kc kr) (hT : lq_T M s kp kr) (gx : G x = (1011, 0)) (gm : G m = (1012, 0)) (f : ab_frm W G M M') (c : lq_Uo W) (c2 : ∀ q ∈ W, q.1 ≠ 1009) (o : ((¬ (0 ≤ z1 ∧ z1 ≤ 1) ∨ M.1 kr z1.toNat = 0) ∧ M'.1 s = M.1 s ∧ M'.1 m 28 = M.1 m 28) ∨ (∃ k : Nat, k ≤ 1 ∧ z1 = (k : Int) ∧ M.1 kr k ≠ 0 ∧ (∀ p, p < 537 → M'.1 s p = M.1 kp (538 * k + p)) ∧ M'.1 m 28 = 0)) : lq_U G M' x m s w := by
  obtain ⟨hA, hB, h1, h2⟩ := h
  obtain ⟨a1, a2, a3, a4⟩ := hA.ar f c
  have B' := hB.go hA gx gm f c
  have eu : M'.1 (w 121) 3 = M.1 (w 121) 3 := (f _ _ (by
    rw [hA.1]; rintro ⟨r, hr, e1, -⟩; exact c2 r hr e1)).1
  rcases o with ⟨n1, s1, s2⟩ | ⟨k0, j1, j2, j3, j4, j5⟩
  · have hn : ∀ k : Nat, k < 2 → z1 = (k : Int) → M.1 kc k = 0 := fun k hk e => by
      rcases n1 with n1 | n1
      · exact absurd ⟨by omega, by omega⟩ n1
      · rw [hmk k hk]
        rw [show z1.toNat = k by omega] at n1
        exact n1
    obtain ⟨-, -, z, z1, z2, z3, z4⟩ := h1 hn
    exact ⟨hA, B', z, s2.trans z1, z2.cg (fun i _ => by rw [a4]) (by rw [s1]) (fun i hi => by rw [s1]), eu.trans z3, fun i hi => by rw [a1, a2, a3, a4]; exact z4 i hi⟩
  · have ct := (hT.2 k0 (by omega) j3).2.2
    rw [lq_ct_cg (g := fun i => M'.1 s (88 + i)) 96 (fun i hi => (j4 (88 + i) (by omega)).symm)] at ct
    exact ⟨hA, B', 0, j5, lq_Uz.no ct, eu.trans (h2 k0 (by omega) j2 (by rw [hmk k0 (by omega)]; exact j3)), fun i hi => absurd hi (Nat.not_lt_zero i)⟩
theorem lp_R.ge (h : lp_R G M x m s kp kc kr w) (g : G x = (1011, 0) ∧ G m = (1012, 0) ∧ G tp = (1008, 0) ∧ G s = (51100, 537) ∧ G kp = (70100, 1076)) (f : ab_frm W G M M') (c : lp_Rd W) (es : ∀ k, k < 184 → M'.1 s k = M.1 s k) : lp_R G M' x m s kp kc kr w :=
  ⟨h.1.fr g.1 g.2.1 f c.1, lp_mk_go h.2.1 h.1.1 h.1.2.1 f (fun q hq => (c.2.1.2 q hq).1) c.2.2.1, h.2.2.1.ge g.1 g.2.2.2.2 h.1.1 f c.2.1 es, h.2.2.2.1.ge g.2.2.2.2 h.1.2.1 f (fun q hq => (c.2.1.2 q hq).2) c.2.2.1 es, h.2.2.2.2.ge g.1 g.2.1 f c.2.2.2 es⟩
theorem lp_R.go (h : lp_R G M x m s kp kc kr w) (g : G x = (1011, 0) ∧ G m = (1012, 0) ∧ G tp = (1008, 0) ∧ G s = (51100, 537) ∧ G kp = (70100, 1076)) (f : ab_frm W G M M') (c : lp_Rc W) : lp_R G M' x m s kp kc kr w := h.ge g f c.1 (lp_es2 g.2.2.2.1 f c.2)
theorem lp_I.ge (hI : lp_I G M x m tp s kp bc bt kc kr w) (V : lw_V G M' x m tp s kp) (S : M'.1 tp 1 = M.1 tp 1 ∧ M'.1 m 2 = M.1 m 2) (f : ab_frm W G M M') (c6 : lp_6c W) (c7 : lp_7c W) (cR : lp_Rd W) (es : ∀ k, k < 184 → M'.1 s k = M.1 s k) : lp_I G M' x m tp s kp bc bt kc kr w :=
  ⟨⟨⟨V, S.1.trans (hI.1.1.2.trans S.2.symm)⟩, hI.1.2.1.go hI.1.1.1.2.1.2.2.1 hI.1.1.1.2.1.2.1 f c6, (lp_7.c hI.1.2.1.1 f (fun q hq => (c7 q hq).1)).trans (hI.1.2.2.trans (lp_7.t hI.1.2.1.2.1 f (fun q hq => (c7 q hq).2)).symm)⟩, hI.2.ge hI.1.1.1.2.1 f cR es⟩
theorem lp_I.go (hI : lp_I G M x m tp s kp bc bt kc kr w) (V : lw_V G M' x m tp s kp) (S : M'.1 tp 1 = M.1 tp 1 ∧ M'.1 m 2 = M.1 m 2) (f : ab_frm W G M M') (c6 : lp_6c W) (c7 : lp_7c W) (cR : lp_Rc W) : lp_I G M' x m tp s kp bc bt kc kr w := hI.ge V S f c6 c7 cR.1 (lp_es2 hI.1.1.1.2.1.2.2.2.1 f cR.2)
theorem lq_J.mv (h : lq_J G M x s kp kc w) (e1 : M'.1 = M.1) (e2 : M'.2.2 = M.2.2) : lq_J G M' x s kp kc w := by
  obtain ⟨hA, hB, p, q, hN, h1, h2⟩ := h
  refine ⟨hA, by unfold lq_B; rw [e2]; exact hB, p, q, by unfold lq_N; rw [e2]; exact hN, by unfold rv_G6 rv_G4; rw [e1]; exact h1, fun k hk h0 => ?_⟩
  rw [e1] at h0
  unfold rv_G6 rv_G4; rw [e1]; exact h2 k hk h0
theorem lp_I.mv (hI : lp_I G M x m tp s kp bc bt kc kr w) (e1 : M'.1 = M.1) (e2 : M'.2.2 = M.2.2) (e3 : ∀ y k, (G y).1 = 55103 → M'.2.1 y k = M.2.1 y k) : lp_I G M' x m tp s kp bc bt kc kr w := by
  obtain ⟨⟨⟨⟨⟨i1, i2, i3, i4, i5⟩, g, r, f1, f2, f3⟩, e⟩, ⟨a1, a2, a3, a4, a5, a6⟩, a7⟩, ⟨q1, q2, q3, q4⟩, q5, q6, q7, q8⟩ := hI
  refine ⟨⟨⟨⟨⟨?_, ?_, i3, i4, fun a k ha hk => (e3 a k ha).trans (i5 a k ha hk)⟩, g, ?_, f1.cg (fun k _ => by rw [e1]), f2.cg (fun k _ => by rw [e1]), f3.cg (fun k _ => by rw [e1])⟩, ?_⟩, ⟨a1, a2, by rw [e2]; exact a3, by rw [e2]; exact a4, fun a ha k hk => ?_, fun a ha s t hs ht q => a6 a ha s t hs ht (by rw [e2] at q; exact q)⟩, by rw [e1]; exact a7⟩, ⟨q1, q2, by rw [e2]; exact q3, by rw [e2]; exact q4⟩, fun k hk => by rw [e1]; exact q5 k hk, q6.mv e1 e2, by unfold lq_T; rw [e1]; exact q7, q8.mv e1 e2⟩
  · rw [e1]; exact i1
  · rw [e2]; exact i2
  · rw [e2]; exact r
  · rw [e1]; exact e
  · rw [e2]; exact a5 a ha k hk
/-! what the invariant tells, by name -/
theorem lp_I.gx (h : lp_I G M x m tp s kp bc bt kc kr w) : G x = (1011, 0) := h.1.1.1.2.1.1
theorem lp_I.gm (h : lp_I G M x m tp s kp bc bt kc kr w) : G m = (1012, 0) := h.1.1.1.2.1.2.1
theorem lp_I.gs (h : lp_I G M x m tp s kp bc bt kc kr w) : G s = (51100, 537) := h.1.1.1.2.1.2.2.2.1
theorem lp_I.m6 (h : lp_I G M x m tp s kp bc bt kc kr w) : M.2.2 m 6 = some s := h.1.1.1.2.2.1.2.1
theorem lp_I.V (h : lp_I G M x m tp s kp bc bt kc kr w) : lw_V G M x m tp s kp := h.1.1.1
theorem lp_I.J (h : lp_I G M x m tp s kp bc bt kc kr w) : lq_J G M x s kp kc w := h.2.2.2.1
theorem lp_I.T (h : lp_I G M x m tp s kp bc bt kc kr w) : lq_T M s kp kr := h.2.2.2.2.1
theorem lp_I.U (h : lp_I G M x m tp s kp bc bt kc kr w) : lq_U G M x m s w := h.2.2.2.2.2
theorem lp_I.r4 (h : lp_I G M x m tp s kp bc bt kc kr w) : rv_r4 (M.1 s) 0 := h.2.2.2.2.1.1.1
theorem lp_I.b0 (h : lp_I G M x m tp s kp bc bt kc kr w) : 0 ≤ M.1 s 0 ∧ M.1 s 0 ≤ 8 := h.2.2.2.2.1.1.1.1
end PI
/-! ===== begin, as the PLAIN now asks for it ===== -/
def lr_begin (H : Nat → Int) : Int := if H 0 = 0 then 0 else 1
section RB
variable {G : mj_G} {M : mj_M} {x m tp s kp bc bt kc kr : Nat} {w : Nat → Nat}
theorem lr_X11_begin (hI : lp_I G M x m tp s kp bc bt kc kr w) : mj_R mj_tab 40 110 [.inr (.inr (some x))] G M (fun r _ _ => r = some (.inl (lr_begin (M.1 s)))) := by
  obtain ⟨hA, hB, p, q, hN, h1, -⟩ := hI.J
  have e : M.1 s 0 = M.1 (w p) 4 := h1.1.1
  exact r_X11_begin4 hI.1.1.1.1 hI.gx hA hB hN (fun h _ => by unfold lr_begin; rw [e, if_pos h]) (fun h _ => by unfold lr_begin; rw [e, if_neg h])
theorem lr_X12_begin (hI : lp_I G M x m tp s kp bc bt kc kr w) : mj_R mj_tab 40 162 [.inr (.inr (some m))] G M (fun r _ _ => r = some (.inl (lr_begin (M.1 s)))) :=
  r_X12_begin4 hI.1.1.1.1 hI.gm hI.gs hI.m6 (fun h _ => by unfold lr_begin; rw [if_pos h]) (fun h _ => by unfold lr_begin; rw [if_neg h])
end RB
end
section
/-! ===== the PLAIN with its bids, and what can be undone, at the loop's head (over V3.2) ===== -/
theorem sz_lq_lt : ∀ e ∈ sz_lq, e.1 < 361 ∧ e.2.2 ≤ 4096 := by decide +kernel
def sz_q (i k : Nat) : Bool := sz_lq.any (fun e => Nat.beq e.1 i && (Nat.ble e.2.1 k && Nat.blt k e.2.2))
theorem sz_q_s {w : sx_w} {h : sx_H} {G : mj_G} {M : mj_M} {i k : Nat} (hR : sx_RH w h G M) (k2 : sz_hk h = true) (hq : sz_q i k = true) : (sz_M w h G M).1 (w.2.2.2 i) k = 0 := by
  have n1 := (sz_hk_s k2).1
  obtain ⟨e, he, q⟩ := List.any_eq_true.mp hq
  rw [Bool.and_eq_true, Bool.and_eq_true] at q
  obtain ⟨q1, q2, q3⟩ := q
  obtain rfl := Nat.eq_of_beq_eq_true q1
  have q2 := Nat.le_of_ble_eq_true q2
  have q3 : k < e.2.2 := Nat.le_of_ble_eq_true q3
  have l := sz_lq_lt e he
  exact sz_izr_s ((sz_hz_s k2).1 e he) hR (by omega) q2 q3 (by omega)
theorem lq_ct_0 : lq_ct (fun _ => 0) 96 = 0 := by decide +kernel
theorem sz_head4 {w : sx_w} {h : sx_H} {G : mj_G} {M : mj_M} (hR : sx_RH w h G M) (k2 : sz_hk h = true) : rv_r4 ((sz_M w h G M).1 (w.2.2.2 338)) 0 := by
  have n1 := (sz_hk_s k2).1
  obtain ⟨ya, yb, yc, y3, y4⟩ := sz_hy_s k2
  have s3 : (sz_M w h G M).1 (w.2.2.2 338) 3 = 3 := sz_i3_s y4 hR (by omega) (by decide) (by
    have g := sz_tg_s (sz_hk_s k2).2.2.1.2.2.2.1 hR (by omega)
    rw [sz_G_in (by omega)] at g
    rw [g]; decide)
  have zs : ∀ k, k < 88 → k ≠ 3 → (sz_M w h G M).1 (w.2.2.2 338) k = 0 := by
    intro k hk h3
    have key : ∀ k : Fin 88, k.val ≠ 3 → sz_q 338 k.val = true := by decide +kernel
    exact sz_q_s hR k2 (key ⟨k, hk⟩ h3)
  refine ⟨by rw [zs 0 (by decide) (by decide)]; decide, by rw [Nat.zero_add, zs 1 (by decide) (by decide)]; decide, by rw [Nat.zero_add, zs 2 (by decide) (by decide)]; decide, by rw [Nat.zero_add, s3]; decide, fun t v ht hv => ?_, fun v hv => ?_⟩
  · rw [Nat.zero_add, zs _ (by omega) (by omega)]; exact ⟨by decide, by decide, Or.inr rfl⟩
  · rw [Nat.zero_add, zs _ (by omega) (by omega)]; decide
theorem sz_head6 {w : sx_w} {h : sx_H} {G : mj_G} {M : mj_M} (hR : sx_RH w h G M) (k2 : sz_hk h = true) : rv_G6 ((sz_M w h G M).1 (w.2.2.2 338)) 0 w.2.2.2 30 (sz_M w h G M) ∧ rv_r6 ((sz_M w h G M).1 (w.2.2.2 338)) 0 ∧ lq_U (sz_G w h G) (sz_M w h G M) (w.2.2.2 26) (w.2.2.2 336) (w.2.2.2 338) w.2.2.2 := by
  have n1 := (sz_hk_s k2).1
  obtain ⟨ya, yb, -, -, -⟩ := sz_hy_s k2
  have tg : ∀ i t n, (i, t, n) ∈ sz_lt → sz_G w h G (w.2.2.2 i) = (t, n) := fun i t n he => sz_tg_s (yb (i, t, n) he) hR (by have := sz_lt_lt _ he; omega)
  have rq : ∀ i k j, (i, k, j) ∈ sz_lr → (sz_M w h G M).2.2 (w.2.2.2 i) k = some (w.2.2.2 j) := fun i k j he => sz_rq_s (ya (i, k, j) he) hR (by have := (sz_lr_lt _ he).1; omega) (sz_lr_lt _ he).2
  have zs : ∀ k, 88 ≤ k → k < 184 → (sz_M w h G M).1 (w.2.2.2 338) k = 0 := by
    intro k h1 h2
    have key : ∀ k : Fin 96, sz_q 338 (88 + k.val) = true := by decide +kernel
    have := sz_q_s hR k2 (key ⟨k - 88, by omega⟩)
    rw [show 88 + (k - 88) = k by omega] at this; exact this
  have zb : ∀ t v, t < 8 → v < 12 → (sz_M w h G M).1 (w.2.2.2 (30 + 12 + t)) v = 0 := by
    intro t v ht hv
    have key : ∀ (t : Fin 8) (v : Fin 12), sz_q (30 + 12 + t.val) v.val = true := by decide +kernel
    exact sz_q_s hR k2 (key ⟨t, ht⟩ ⟨v, hv⟩)
  have ct : lq_ct (fun i => (sz_M w h G M).1 (w.2.2.2 338) (88 + i)) 96 = 0 := (lq_ct_cg (g := fun _ => 0) 96 (fun i hi => zs (88 + i) (by omega) (by omega))).trans lq_ct_0
  have ct0 : lq_ct (fun i => (sz_M w h G M).1 (w.2.2.2 338) (0 + (88 + i))) 96 = 0 := (lq_ct_cg (g := fun _ => 0) 96 (fun i hi => zs (0 + (88 + i)) (by omega) (by omega))).trans lq_ct_0
  refine ⟨⟨(sz_head3 hR k2).2.2.2, fun t v ht hv => ?_, ?_⟩, ⟨sz_head4 hR k2, fun t v ht hv => ?_, by rw [ct0]; decide⟩, ?_⟩
  · rw [zs _ (by omega) (by omega), zb t v ht hv]
  · rw [ct0]; exact sz_q_s hR k2 (by decide +kernel)
  · rw [zs _ (by omega) (by omega)]; exact ⟨by decide, by decide, Or.inr rfl⟩
  · refine ⟨⟨tg _ _ _ (by decide +kernel), tg _ _ _ (by decide +kernel), tg _ _ _ (by decide +kernel), tg _ _ _ (by decide +kernel), tg _ _ _ (by decide +kernel)⟩, ⟨rq _ _ _ (by decide +kernel), rq _ _ _ (by decide +kernel), rq _ _ _ (by decide +kernel), rq _ _ _ (by decide +kernel), rq _ _ _ (by decide +kernel)⟩, 0, sz_q_s hR k2 (by decide +kernel), lq_Uz.no (by rw [ct]; decide), sz_q_s hR k2 (by decide +kernel), fun i hi => absurd hi (Nat.not_lt_zero i)⟩
end
