/-! ===== worth, must of the reference: the bids come back (laid by a program) ===== -/
theorem r_thinks {G : mj_G} {M : mj_M} {m dd : Nat} {Q : mj_P} (hd : ab_h cd_25 ≤ dd) (hI : ab_Inv G M) (gm : G m = (1012, 0)) (hQ : ∀ M', ab_Inv G M' → ab_frm (ab_w cd_25) G M M' → Q none G M') : mj_R mj_tab (dd + 1) 247 [.inr (.inr (some m))] G M Q := by
  refine ab_all_ok 223 (Nat.le_refl _) 28 (by decide) dd hd G M (0, hn_g [], 1, fun _ => some m) _ Q hn_Y0 (lw_RR gm (by decide) (by decide) (by decide)) (fun e he => by cases he) ⟨_, _, rfl, ⟨Nat.zero_lt_one, rfl⟩, rfl⟩ hI (fun r M' i f ⟨po, hpo, h⟩ => ?_)
  cases hpo with
  | head =>
    have hr : r = none := h.1
    rw [hr]; exact hQ M' i f
  | tail _ hpo => cases hpo
theorem r_forgets {G : mj_G} {M : mj_M} {m dd : Nat} {Q : mj_P} (hd : ab_h cd_22 ≤ dd) (hI : ab_Inv G M) (gm : G m = (1012, 0)) (hQ : ∀ M', ab_Inv G M' → ab_frm (ab_w cd_22) G M M' → Q none G M') : mj_R mj_tab (dd + 1) 189 [.inr (.inr (some m))] G M Q := by
  refine ab_all_ok 223 (Nat.le_refl _) 25 (by decide) dd hd G M (0, hn_g [], 1, fun _ => some m) _ Q hn_Y0 (lw_RR gm (by decide) (by decide) (by decide)) (fun e he => by cases he) ⟨_, _, rfl, ⟨Nat.zero_lt_one, rfl⟩, rfl⟩ hI (fun r M' i f ⟨po, hpo, h⟩ => ?_)
  cases hpo with
  | head =>
    have hr : r = none := h.1
    rw [hr]; exact hQ M' i f
  | tail _ hpo => cases hpo
theorem r_wholeYear {G : mj_G} {M : mj_M} {m dd : Nat} {z : Int} {Q : mj_P} (hd : ab_h cd_160 ≤ dd) (hI : ab_Inv G M) (gm : G m = (1012, 0)) (hz : 0 ≤ z ∧ z ≤ 1) (hQ : ∀ M', ab_Inv G M' → ab_frm (ab_w cd_160) G M M' → Q none G M') : mj_R mj_tab (dd + 1) 258 [.inr (.inr (some m)), .inl z] G M Q := by
  refine ab_all_ok 223 (Nat.le_refl _) 169 (by decide) dd hd G M (1, hn_g [z], 1, fun _ => some m) _ Q (hn_Y1 hz) (lw_RR gm (by decide) (by decide) (by decide)) (fun e he => by cases he) ⟨_, _, rfl, ⟨Nat.zero_lt_one, rfl⟩, _, _, rfl, ⟨_, rfl, hn_I (Nat.le_of_ble_eq_true rfl) rfl⟩, rfl⟩ hI (fun r M' i f ⟨po, hpo, h⟩ => ?_)
  cases hpo with
  | head =>
    have hr : r = none := h.1
    rw [hr]; exact hQ M' i f
  | tail _ hpo => cases hpo
theorem r_begins5 {G : mj_G} {M : mj_M} {m s dd : Nat} {Q : mj_P} (hd : ab_h cd_61 ≤ dd) (hI : ab_Inv G M) (gm : G m = (1012, 0)) (gs : G s = (51100, 537)) (m6 : M.2.2 m 6 = some s) (hQ : ∀ M', ab_Inv G M' → ab_frm (ab_w cd_61) G M M' → M'.1 s 222 = 0 → Q none G M') : mj_R mj_tab (dd + 1) 163 [.inr (.inr (some m))] G M Q := by
  refine ab_all_ok 223 (Nat.le_refl _) 68 (by decide) dd hd G M (1, hn_g [M.1 s 222], 2, lw_w2 m s) _ Q (hn_Y1 (show (0 : Int) ≤ M.1 s 222 ∧ M.1 s 222 ≤ 12 by have h := hI.1 s 222; rw [gs] at h; exact h)) ⟨rfl, fun i q e => by
    cases i with
    | zero => cases e; exact Or.inr (Or.inr (Or.inr ⟨by decide, by decide, by decide, m, rfl, gm⟩))
    | succ i => cases i with
      | zero => cases e; exact Or.inr (Or.inr (Or.inr ⟨by decide, by decide, by decide, s, rfl, gs⟩))
      | succ i => cases e⟩ (fun e he => by
    cases he with
    | head => exact ⟨Nat.le_of_ble_eq_true rfl, m, 6, rfl, rfl, by decide, Nat.le_of_ble_eq_true rfl, m6⟩
    | tail _ he => cases he with
      | head => exact ⟨Nat.le_of_ble_eq_true rfl, s, 222, rfl, rfl, by decide, hn_I (Nat.le_of_ble_eq_true rfl) rfl⟩
      | tail _ he => cases he) ⟨_, _, rfl, ⟨Nat.le_of_ble_eq_true rfl, rfl⟩, rfl⟩ hI (fun r M' i f ⟨po, hpo, h⟩ => ?_)
  cases hpo with
  | head =>
    have hr : r = none := h.1
    obtain ⟨a, ha, hx⟩ := h.2 _ (List.Mem.head _)
    cases ha
    rw [hr]; exact hQ M' i f hx
  | tail _ hpo => cases hpo
theorem r_month5 {G : mj_G} {M : mj_M} {m s dd : Nat} {z : Int} {Q : mj_P} (hd : ab_h cd_144 ≤ dd) (hI : ab_Inv G M) (gm : G m = (1012, 0)) (gs : G s = (51100, 537)) (m6 : M.2.2 m 6 = some s) (hz : -99 ≤ z ∧ z ≤ 99) (h2 : 0 ≤ M.1 s 222 ∧ M.1 s 222 ≤ 11) (hQ : ∀ M', ab_Inv G M' → ab_frm (ab_w cd_144) G M M' → M'.1 s 222 = M.1 s 222 + 1 → Q none G M') : mj_R mj_tab (dd + 1) 213 [.inr (.inr (some m)), .inl z] G M Q := by
  refine ab_all_ok 223 (Nat.le_refl _) 153 (by decide) dd hd G M (2, hn_g [z, M.1 s 222], 2, lw_w2 m s) _ Q (hn_Y2 hz h2) ⟨rfl, fun i q e => by
    cases i with
    | zero => cases e; exact Or.inr (Or.inr (Or.inr ⟨by decide, by decide, by decide, m, rfl, gm⟩))
    | succ i => cases i with
      | zero => cases e; exact Or.inr (Or.inr (Or.inr ⟨by decide, by decide, by decide, s, rfl, gs⟩))
      | succ i => cases e⟩ (fun e he => by
    cases he with
    | head => exact ⟨Nat.le_of_ble_eq_true rfl, m, 6, rfl, rfl, by decide, Nat.le_of_ble_eq_true rfl, m6⟩
    | tail _ he => cases he with
      | head => exact ⟨Nat.le_of_ble_eq_true rfl, s, 222, rfl, rfl, by decide, hn_I (Nat.le_of_ble_eq_true rfl) rfl⟩
      | tail _ he => cases he) ⟨_, _, rfl, ⟨Nat.le_of_ble_eq_true rfl, rfl⟩, _, _, rfl, ⟨_, rfl, hn_I (Nat.le_of_ble_eq_true rfl) rfl⟩, rfl⟩ hI (fun r M' i f ⟨po, hpo, h⟩ => ?_)
  cases hpo with
  | head =>
    have hr : r = none := h.1
    obtain ⟨a, ha, hx⟩ := h.2 _ (List.Mem.head _)
    cases ha
    rw [hr]; exact hQ M' i f hx
  | tail _ hpo => cases hpo
theorem ab_s_b : ∀ j, 88 ≤ j → j < 184 → ab_rg 51100 j = ab_ii := by
  intro j h1 h2
  have h : ∀ j : Fin 96, ab_rg 51100 (88 + j.val) = ab_ii := by decide +kernel
  have := h ⟨j - 88, by omega⟩
  rw [show 88 + (j - 88) = j by omega] at this
  exact this
/-- bids of s are as they were, but those from a to b -/
def lq_ke (s a b : Nat) (M M' : mj_M) : Prop := ∀ j, 88 ≤ j → j < 184 → ¬ (a ≤ j ∧ j < b) → M'.1 s j = M.1 s j
theorem lq_ke.fr {G : mj_G} {s a b : Nat} {M M' M'' : mj_M} {W : List (Nat × Nat × Nat)} (gs : G s = (51100, 537)) (h : lq_ke s a b M M') (f : ab_frm W G M' M'') (c : ∀ q ∈ W, ¬ (q.1 = 51100 ∧ q.2.1 < 184)) : lq_ke s a b M M'' := fun j h1 h2 h3 => (f s j (by
  rw [gs]; rintro ⟨r, hr, e1, e2, e3⟩; exact c r hr ⟨e1, by omega⟩)).1.trans (h j h1 h2 h3)
theorem hn_rr {G : mj_G} {M M' : mj_M} {W : List (Nat × Nat × Nat)} {a t n k : Nat} (ga : G a = (t, n)) (f : ab_frm W G M M') (c : ∀ q ∈ W, ¬ (q.1 = t ∧ q.2.1 ≤ k ∧ k ≤ q.2.2)) : M'.2.2 a k = M.2.2 a k := (f a k (by
  rw [ga]; rintro ⟨r, hr, e1, e2, e3⟩; exact c r hr ⟨e1, e2, e3⟩)).2
theorem hn_ri {G : mj_G} {M M' : mj_M} {W : List (Nat × Nat × Nat)} {a t n k : Nat} (ga : G a = (t, n)) (f : ab_frm W G M M') (c : ∀ q ∈ W, ¬ (q.1 = t ∧ q.2.1 ≤ k ∧ k ≤ q.2.2)) : M'.1 a k = M.1 a k := (f a k (by
  rw [ga]; rintro ⟨r, hr, e1, e2, e3⟩; exact c r hr ⟨e1, e2, e3⟩)).1
theorem r_wo1 {G : mj_G} {M0 : mj_M} {m s bk r : Nat} {Q : mj_P} {k v2 : Int} (gm : G m = (1012, 0)) (gs : G s = (51100, 537)) (gb : G bk = (65100, 12)) (m6 : M0.2.2 m 6 = some s) (m46 : M0.2.2 m 46 = some bk) (k1 : 0 ≤ k) (k2 : k < 8) (hr : r = (88 + 12 * k).toNat) : ∀ (f i : Nat) (M : mj_M) (cb sb : Nat), i + f = 12 → ab_Inv G M → M.2 = M0.2 → lq_ke s r (r + i) M0 M → (∀ l, l < i → M.1 bk l = M0.1 s (r + l)) → (∀ M' cb sb, ab_Inv G M' → M'.2 = M0.2 → lq_ke s r (r + 12) M0 M' → (∀ l, l < 12 → M'.1 bk l = M0.1 s (r + l)) → wz 39 mt_X12_worth.2.2.2.2.1 Q (mt_X12_worth.2.2.2.2.1.drop 45) [some (.inr (.inr (some m))), some (.inl k), some (.inl v2), some (.inl 12), none] [] G M' cb sb) → wz 39 mt_X12_worth.2.2.2.2.1 Q (mt_X12_worth.2.2.2.2.1.drop 21) [some (.inr (.inr (some m))), some (.inl k), some (.inl v2), some (.inl (i : Int)), none] [] G M cb sb := by
  have bs : bk ≠ s := hn_ne gb gs (by decide)
  intro f
  induction f with
  | zero =>
    intro i M cb sb e hI h2 h1 h3 h
    have e : i = 12 := by omega
    subst e
    refine w_iln rfl ?_
    refine w_bp ?_
    refine w_cmge (fun c => ?_) (fun c => by exfalso; omega)
    exact h M _ _ hI h2 h1 h3
  | succ f ih =>
    intro i M cb sb e hI h2 h1 h3 h
    have ti : ((i : Int)).toNat = i := by omega
    have tr : ((88 : Int) + 12 * k + (i : Int)).toNat = r + i := by omega
    have vb : (-2147483648 : Int) ≤ M0.1 s (r + i) ∧ M0.1 s (r + i) ≤ 2147483647 := by
      rw [← h1 (r + i) (by omega) (by omega) (by omega)]
      have := hI.1 s (r + i)
      rw [gs] at this
      rw [show ab_rg (51100, 537).1 (r + i) = ab_ii from ab_s_b _ (by omega) (by omega)] at this
      exact this
    refine w_iln rfl ?_
    refine w_bp ?_
    refine w_cmge (fun c => by exfalso; omega) (fun c => ?_)
    refine w_aln rfl ?_
    refine w_gr gm rfl (by decide) rfl (by rw [h2]; exact m46) ?_
    refine w_iln rfl ?_
    refine w_aln rfl ?_
    refine w_iln rfl ?_
    refine w_iln rfl ?_
    refine w_cv (st := [.inl (i : Int), .inr (.inr (some bk))]) rfl gm rfl (Nat.le_of_ble_eq_true rfl) (fun kk h => h) ⟨Nat.le_of_ble_eq_true rfl, ?_⟩
    show wz 38 mt_X12_bidOf.2.2.2.2.1 _ mt_X12_bidOf.2.2.2.2.1 [some (.inr (.inr (some m))), some (.inl k), some (.inl (i : Int))] [] _ _ _ _
    refine w_aln rfl ?_
    refine w_gr gm rfl (by decide) rfl (by rw [h2]; exact m6) ?_
    refine w_bp ?_
    refine w_bp ?_
    refine w_iln rfl ?_
    refine w_mul ⟨by omega, by omega⟩ ?_
    refine w_add ⟨by omega, by omega⟩ ?_
    refine w_iln rfl ?_
    refine w_add ⟨by omega, by omega⟩ ?_
    refine w_iald (v := M0.1 s (r + i)) gs rfl (by omega) (by show (88 : Int) + 12 * k + (i : Int) < ((537 : Nat) : Int); omega) (by rw [tr]; exact h1 _ (by omega) (by omega) (by omega)) ?_
    refine w_iret (fun q => by cases q) ?_
    refine w_iast gb rfl (by decide) (by omega) (by show (i : Int) < ((12 : Nat) : Int); omega) ?_
    refine w_aln rfl ?_
    refine w_gr gm rfl (by decide) rfl (by show M.2.2 m 6 = _; rw [h2]; exact m6) ?_
    refine w_bp ?_
    refine w_bp ?_
    refine w_iln rfl ?_
    refine w_mul ⟨by omega, by omega⟩ ?_
    refine w_add ⟨by omega, by omega⟩ ?_
    refine w_iln rfl ?_
    refine w_add ⟨by omega, by omega⟩ ?_
    refine w_ic ?_
    refine w_iast gs rfl (by decide) (by omega) (by show (88 : Int) + 12 * k + (i : Int) < ((537 : Nat) : Int); omega) ?_
    refine w_ii rfl ⟨by omega, by omega⟩ ?_
    refine w_goto ?_
    rw [ti, tr]
    refine ih (i + 1) _ _ _ (by omega) ((hI.p0 ?_).p0 ?_) h2 (fun j j1 j2 j3 => (hn_n (Or.inr (by omega))).trans ((hn_n (Or.inl (Ne.symm bs))).trans (h1 j j1 j2 (by omega)))) (fun l hl => (hn_n (Or.inl bs)).trans ?_) h
    · rw [gb]; exact vb
    · rw [gs, show ab_rg (51100, 537).1 (r + i) = ab_ii from ab_s_b _ (by omega) (by omega)]; exact ⟨by decide, by decide⟩
    · rcases Nat.lt_or_ge l i with q | q
      · exact (hn_n (Or.inr (by omega))).trans (h3 l q)
      · rw [show l = i by omega]; exact hn_s
theorem r_wo2 {G : mj_G} {M0 : mj_M} {m s bk r : Nat} {Q : mj_P} {k v2 v3 : Int} {H : Nat → Int} (gm : G m = (1012, 0)) (gs : G s = (51100, 537)) (gb : G bk = (65100, 12)) (m6 : M0.2.2 m 6 = some s) (m46 : M0.2.2 m 46 = some bk) (hb : ∀ l, l < 12 → M0.1 bk l = H (r + l)) (k1 : 0 ≤ k) (k2 : k < 8) (hr : r = (88 + 12 * k).toNat) : ∀ (f i : Nat) (M : mj_M) (cb sb : Nat), i + f = 12 → ab_Inv G M → M.2 = M0.2 → M.1 bk = M0.1 bk → (∀ j, 88 ≤ j → j < 184 → ¬ (r + i ≤ j ∧ j < r + 12) → M.1 s j = H j) → (∀ M' cb sb, ab_Inv G M' → M'.2 = M0.2 → (∀ j, 88 ≤ j → j < 184 → M'.1 s j = H j) → wz 39 mt_X12_worth.2.2.2.2.1 Q (mt_X12_worth.2.2.2.2.1.drop 74) [some (.inr (.inr (some m))), some (.inl k), some (.inl v2), some (.inl v3), some (.inl 12)] [] G M' cb sb) → wz 39 mt_X12_worth.2.2.2.2.1 Q (mt_X12_worth.2.2.2.2.1.drop 55) [some (.inr (.inr (some m))), some (.inl k), some (.inl v2), some (.inl v3), some (.inl (i : Int))] [] G M cb sb := by
  have bs : bk ≠ s := hn_ne gb gs (by decide)
  intro f
  induction f with
  | zero =>
    intro i M cb sb e hI h2 h1 h3 h
    have e : i = 12 := by omega
    subst e
    refine w_il rfl ?_
    refine w_bp ?_
    refine w_cmge (fun c => ?_) (fun c => by exfalso; omega)
    exact h M _ _ hI h2 (fun j a b => h3 j a b (by omega))
  | succ f ih =>
    intro i M cb sb e hI h2 h1 h3 h
    have ti : ((i : Int)).toNat = i := by omega
    have tr : ((88 : Int) + 12 * k + (i : Int)).toNat = r + i := by omega
    have vb : (-2147483648 : Int) ≤ H (r + i) ∧ H (r + i) ≤ 2147483647 := by
      rw [← hb i (by omega), ← h1]
      have := hI.1 bk i
      rw [gb] at this
      exact this
    refine w_il rfl ?_
    refine w_bp ?_
    refine w_cmge (fun c => by exfalso; omega) (fun c => ?_)
    refine w_aln rfl ?_
    refine w_gr gm rfl (by decide) rfl (by rw [h2]; exact m6) ?_
    refine w_bp ?_
    refine w_bp ?_
    refine w_iln rfl ?_
    refine w_mul ⟨by omega, by omega⟩ ?_
    refine w_add ⟨by omega, by omega⟩ ?_
    refine w_il rfl ?_
    refine w_add ⟨by omega, by omega⟩ ?_
    refine w_aln rfl ?_
    refine w_gr gm rfl (by decide) rfl (by rw [h2]; exact m46) ?_
    refine w_il rfl ?_
    refine w_iald (v := H (r + i)) gb rfl (by omega) (by show (i : Int) < ((12 : Nat) : Int); omega) (by rw [ti, h1]; exact hb i (by omega)) ?_
    refine w_iast gs rfl (by decide) (by omega) (by show (88 : Int) + 12 * k + (i : Int) < ((537 : Nat) : Int); omega) ?_
    refine w_ii rfl ⟨by omega, by omega⟩ ?_
    refine w_goto ?_
    rw [tr]
    refine ih (i + 1) _ _ _ (by omega) (hI.p0 ?_) h2 ((wz_c bs).trans h1) (fun j j1 j2 j3 => ?_) h
    · rw [gs, show ab_rg (51100, 537).1 (r + i) = ab_ii from ab_s_b _ (by omega) (by omega)]; exact vb
    · by_cases q : j = r + i
      · rw [q]; exact hn_s
      · exact (hn_n (Or.inr q)).trans (h3 j j1 j2 (by omega))
set_option maxRecDepth 100000 in
theorem r_X12_worth5 {G : mj_G} {M : mj_M} {m s : Nat} {Q : mj_P} {z1 : Int} (hI : ab_Inv G M) (gm : G m = (1012, 0)) (gs : G s = (51100, 537)) (m6 : M.2.2 m 6 = some s) (b0 : 0 ≤ M.1 s 0 ∧ M.1 s 0 ≤ 8) (h : ∀ z M', (∀ j, 88 ≤ j → j < 184 → M'.1 s j = M.1 s j) → Q (some (.inl z)) G M') : mj_R mj_tab 40 259 [.inr (.inr (some m)), .inl z1] G M Q := by
  obtain ⟨bk, m46, gb⟩ := hn_rf (k := 46) (q := (65100, 12)) hI gm rfl (by decide) (by decide) (by decide) (fun e => absurd e (by decide))
  have sm : s ≠ m := hn_ne gs gm (by decide)
  have es : (mj_p0 M m 0 0).1 s = M.1 s := wz_c sm
  have hI1 : ab_Inv G (mj_p0 M m 0 0) := hI.p0 (by rw [gm]; exact ⟨by decide, by decide⟩)
  refine ⟨Nat.le_of_ble_eq_true rfl, ?_⟩
  show wz 39 mt_X12_worth.2.2.2.2.1 Q mt_X12_worth.2.2.2.2.1 [some (.inr (.inr (some m))), some (.inl z1), none, none, none] [] G M _ _
  refine w_aln rfl ?_
  refine w_ic ?_
  refine w_pi gm rfl (by decide) rfl (fun q => by cases q) ?_
  refine w_aln rfl ?_
  refine w_iln rfl ?_
  refine w_cv (st := []) rfl gm rfl (Nat.le_of_ble_eq_true rfl) (fun kk h => h) ⟨Nat.le_of_ble_eq_true rfl, ?_⟩
  show wz (38) mt_X12_isTown.2.2.2.2.1 _ mt_X12_isTown.2.2.2.2.1 [some (.inr (.inr (some m))), some (.inl z1)] [] _ _ _ _
  refine w_iln rfl ?_
  refine w_ic ?_
  refine w_aln rfl ?_
  refine w_gr gm rfl (by decide) rfl (m6) ?_
  refine w_ic ?_
  refine w_iald (v := (M.1 s 0)) gs rfl (by show (0 : Int) ≤ 0; omega) (by show 0 < ((537 : Nat) : Int); omega) ((hn_n (Or.inl (hn_ne gs gm (by decide)))).trans (congrArg (M.1 s) (by show (0 : Int).toNat = 0; omega))) ?_
  refine w_ic ?_
  refine w_sub ⟨by show (-2147483648 : Int) ≤ (M.1 s 0) - 1; omega, by show (M.1 s 0) - 1 < (2147483648 : Int); omega⟩ ?_
  refine w_cs (st := []) rfl (Nat.le_of_ble_eq_true rfl) (fun kk h => h) ⟨Nat.le_of_ble_eq_true rfl, ?_⟩
  show wz (37) mt_X12_isIn.2.2.2.2.1 _ mt_X12_isIn.2.2.2.2.1 [some (.inl z1), some (.inl 0), some (.inl ((M.1 s 0) - 1))] [] _ _ _ _
  refine w_iln rfl ?_
  refine w_iln rfl ?_
  refine w_cmlt (fun c1 => ?_) (fun c1 => ?_)
  · skip
    refine w_ic ?_
    refine w_iret (fun _ => Or.inl rfl) ?_
    refine w_iret (fun _ => Or.inl rfl) ?_
    refine w_ifne (fun c2 => ?_) (fun c2 => ?_)
    · exfalso; omega
    · skip
      refine w_sp ?_
      exact w_iret (fun q => by cases q) (h _ _ (fun j _ _ => by rw [es]))
  · skip
    refine w_iln rfl ?_
    refine w_iln rfl ?_
    refine w_cmgt (fun c3 => ?_) (fun c3 => ?_)
    · skip
      refine w_ic ?_
      refine w_iret (fun _ => Or.inl rfl) ?_
      refine w_iret (fun _ => Or.inl rfl) ?_
      refine w_ifne (fun c4 => ?_) (fun c4 => ?_)
      · exfalso; omega
      · skip
        refine w_sp ?_
        exact w_iret (fun q => by cases q) (h _ _ (fun j _ _ => by rw [es]))
    · skip
      refine w_ic ?_
      refine w_goto ?_
      refine w_iret (fun _ => Or.inr rfl) ?_
      refine w_iret (fun _ => Or.inr rfl) ?_
      refine w_ifne (fun c5 => ?_) (fun c5 => ?_)
      · skip
        refine w_aln rfl ?_
        refine w_cv (st := []) rfl gm rfl (Nat.le_of_ble_eq_true rfl) (fun kk h => h) (r_thinks (dd := 38) (by decide +kernel) hI1 gm (fun M2 I2 f2 => ?_))
        refine w_aln rfl ?_
        refine w_ic ?_
        refine w_cv (st := []) rfl gm rfl (Nat.le_of_ble_eq_true rfl) (fun kk h => h) (r_wholeYear (dd := 38) (by decide +kernel) I2 gm ⟨by decide, by decide⟩ (fun M3 I3 f3 => ?_))
        have e36 : M3.2.2 m 6 = some s := (hn_rr gm f3 (by decide +kernel)).trans ((hn_rr gm f2 (by decide +kernel)).trans m6)
        have e346 : M3.2.2 m 46 = some bk := (hn_rr gm f3 (by decide +kernel)).trans ((hn_rr gm f2 (by decide +kernel)).trans m46)
        have k3 : lq_ke s 0 0 M M3 := lq_ke.fr gs (lq_ke.fr gs (fun j _ _ _ => by rw [es]) f2 (by decide +kernel)) f3 (by decide +kernel)
        refine w_aln rfl ?_
        refine w_gr gm rfl (by decide) rfl e36 ?_
        refine w_sp ?_
        refine w_iald (v := M3.1 s 224) gs rfl (by decide) (by decide) rfl ?_
        refine w_isn ?_
        refine w_ic ?_
        refine w_isn ?_
        refine r_wo1 (M0 := M3) (r := (88 + 12 * z1).toNat) gm gs gb e36 e346 (by omega) (by omega) rfl 12 0 M3 _ _ (by decide) I3 rfl (fun _ _ _ _ => rfl) (fun l hl => absurd hl (Nat.not_lt_zero l)) (fun M4 cb sb I4 g2 g1 g3 => ?_)
        refine w_aln rfl ?_
        refine w_ic ?_
        refine w_cv (st := []) rfl gm rfl (Nat.le_of_ble_eq_true rfl) (fun kk h => h) (r_wholeYear (dd := 38) (by decide +kernel) I4 gm ⟨by decide, by decide⟩ (fun M5 I5 f5 => ?_))
        have e56 : M5.2.2 m 6 = some s := (hn_rr gm f5 (by decide +kernel)).trans (by rw [g2]; exact e36)
        have e546 : M5.2.2 m 46 = some bk := (hn_rr gm f5 (by decide +kernel)).trans (by rw [g2]; exact e346)
        have k5 : lq_ke s (88 + 12 * z1).toNat ((88 + 12 * z1).toNat + 12) M3 M5 := lq_ke.fr gs g1 f5 (by decide +kernel)
        have b5 : ∀ l, l < 12 → M5.1 bk l = M.1 s ((88 + 12 * z1).toNat + l) := fun l hl => (f5 bk l (by rw [gb]; exact hn_nt (by decide +kernel))).1.trans ((g3 l hl).trans (k3 _ (by omega) (by omega) (by omega)))
        refine w_aln rfl ?_
        refine w_gr gm rfl (by decide) rfl e56 ?_
        refine w_sp ?_
        refine w_iald (v := M5.1 s 224) gs rfl (by decide) (by decide) rfl ?_
        refine w_isn ?_
        refine w_ic ?_
        refine w_is ?_
        refine r_wo2 (M0 := M5) (H := M.1 s) (r := (88 + 12 * z1).toNat) gm gs gb e56 e546 b5 (by omega) (by omega) rfl 12 0 M5 _ _ (by decide) I5 rfl rfl (fun j j1 j2 j3 => (k5 j j1 j2 (by omega)).trans (k3 j j1 j2 (by omega))) (fun M6 cb sb I6 q2 q1 => ?_)
        refine w_aln rfl ?_
        refine w_cv (st := []) rfl gm rfl (Nat.le_of_ble_eq_true rfl) (fun kk h => h) (r_forgets (dd := 38) (by decide +kernel) I6 gm (fun M7 I7 f7 => ?_))
        refine w_iln rfl ?_
        refine w_iln rfl ?_
        refine w_subw ?_
        intro z hz ez
        exact w_iret (fun q => by cases q) (h z M7 (fun j j1 j2 => ((lq_ke.fr gs (fun _ _ _ _ => rfl : lq_ke s 0 0 M6 M6) f7 (by decide +kernel)) j j1 j2 (by omega)).trans (q1 j j1 j2)))
      · exfalso; omega
/-- bids of s are H's, but the r-th; s is where it was -/
def lq_mu (G : mj_G) (m s r : Nat) (H : Nat → Int) (M : mj_M) : Prop := ab_Inv G M ∧ M.2.2 m 6 = some s ∧ ∀ j, 88 ≤ j → j < 184 → j ≠ r → M.1 s j = H j
theorem lq_mu.fr {G : mj_G} {m s r : Nat} {H : Nat → Int} {M M' : mj_M} {W : List (Nat × Nat × Nat)} (gm : G m = (1012, 0)) (gs : G s = (51100, 537)) (h : lq_mu G m s r H M) (I : ab_Inv G M') (f : ab_frm W G M M') (c : ∀ q ∈ W, ¬ (q.1 = 51100 ∧ q.2.1 < 184)) (c2 : ∀ q ∈ W, ¬ (q.1 = 1012 ∧ q.2.1 ≤ 6 ∧ 6 ≤ q.2.2)) : lq_mu G m s r H M' := ⟨I, (hn_rr gm f c2).trans h.2.1, fun j j1 j2 j3 => (f s j (by
  rw [gs]; rintro ⟨q, hq, e1, e2, e3⟩; exact c q hq ⟨e1, by omega⟩)).1.trans (h.2.2 j j1 j2 j3)⟩
theorem r_mu1 {G : mj_G} {m s r : Nat} {Q : mj_P} {k o wa : Int} {H : Nat → Int} (gm : G m = (1012, 0)) (gs : G s = (51100, 537)) (k1 : 0 ≤ k) (k2 : k < 8) (o1 : 0 ≤ o) (o2 : o < 12) (hr : r = (88 + 12 * k + o).toNat) {g n : Int} : ∀ (f i : Nat) (M : mj_M) (cb sb : Nat), (i : Int) + f = o + 1 → M.1 s 222 = (i : Int) → lq_mu G m s r H M → (∀ M' v6 cb sb, lq_mu G m s r H M' → wz 39 mt_X12_must.2.2.2.2.1 Q (mt_X12_must.2.2.2.2.1.drop 51) [some (.inr (.inr (some m))), some (.inl k), some (.inl o), some (.inl wa), some (.inl g), some (.inl n), v6] [] G M' cb sb) → wz 39 mt_X12_must.2.2.2.2.1 Q (mt_X12_must.2.2.2.2.1.drop 43) [some (.inr (.inr (some m))), some (.inl k), some (.inl o), some (.inl wa), some (.inl g), some (.inl n), some (.inl (i : Int))] [] G M cb sb := by
  intro f
  induction f with
  | zero =>
    intro i M cb sb e e2 h1 h
    refine w_il rfl ?_
    refine w_iln rfl ?_
    refine w_cmgt (fun c => ?_) (fun c => by exfalso; omega)
    exact h M _ _ _ h1
  | succ f ih =>
    intro i M cb sb e e2 h1 h
    refine w_il rfl ?_
    refine w_iln rfl ?_
    refine w_cmgt (fun c => by exfalso; omega) (fun c => ?_)
    refine w_aln rfl ?_
    refine w_ic ?_
    refine w_cv (st := []) rfl gm rfl (Nat.le_of_ble_eq_true rfl) (fun kk h => h) (r_month5 (dd := 38) (by decide +kernel) h1.1 gm gs h1.2.1 ⟨by decide, by decide⟩ (by omega) (fun M1 I1 f1 g1 => ?_))
    refine w_ii rfl ⟨by omega, by omega⟩ ?_
    refine w_goto ?_
    exact ih (i + 1) M1 _ _ (by omega) (by omega) (h1.fr gm gs I1 f1 (by decide +kernel) (by decide +kernel)) h
theorem r_mu2 {G : mj_G} {m s r : Nat} {Q : mj_P} {k o wa : Int} {H : Nat → Int} (gm : G m = (1012, 0)) (gs : G s = (51100, 537)) (k1 : 0 ≤ k) (k2 : k < 8) (o1 : 0 ≤ o) (o2 : o < 12) (hr : r = (88 + 12 * k + o).toNat) (hw : wa = H r) (wb : (-2147483648 : Int) ≤ wa ∧ wa ≤ 2147483647) (hQ : ∀ z M', (∀ j, 88 ≤ j → j < 184 → M'.1 s j = H j) → Q (some (.inl z)) G M') : ∀ (f : Nat) (n g : Int) (M : mj_M) (v6 : Option mj_V) (cb sb : Nat), n + f = 1000 → 1 ≤ n → lq_mu G m s r H M → wz 39 mt_X12_must.2.2.2.2.1 Q (mt_X12_must.2.2.2.2.1.drop 23) [some (.inr (.inr (some m))), some (.inl k), some (.inl o), some (.inl wa), some (.inl g), some (.inl n), v6] [] G M cb sb := by
  have tr : ((88 : Int) + 12 * k + o).toNat = r := by omega
  have fin : ∀ (n g : Int) (M : mj_M) (v6 : Option mj_V) (cb sb : Nat), lq_mu G m s r H M → wz 39 mt_X12_must.2.2.2.2.1 Q (mt_X12_must.2.2.2.2.1.drop 76) [some (.inr (.inr (some m))), some (.inl k), some (.inl o), some (.inl wa), some (.inl g), some (.inl n), v6] [] G M cb sb := by
    intro n g M v6 cb sb h1
    refine w_aln rfl ?_
    refine w_gr gm rfl (by decide) rfl h1.2.1 ?_
    refine w_bp ?_
    refine w_bp ?_
    refine w_iln rfl ?_
    refine w_mul ⟨by omega, by omega⟩ ?_
    refine w_add ⟨by omega, by omega⟩ ?_
    refine w_iln rfl ?_
    refine w_add ⟨by omega, by omega⟩ ?_
    refine w_iln rfl ?_
    refine w_iast gs rfl (by decide) (by omega) (by show (88 : Int) + 12 * k + o < ((537 : Nat) : Int); omega) ?_
    rw [tr]
    refine w_aln rfl ?_
    refine w_cv (st := []) rfl gm rfl (Nat.le_of_ble_eq_true rfl) (fun kk h => h) (r_forgets (dd := 38) (by decide +kernel) (h1.1.p0 (by rw [gs, show ab_rg (51100, 537).1 r = ab_ii from ab_s_b _ (by omega) (by omega)]; exact wb)) gm (fun M1 I1 f1 => ?_))
    refine w_il rfl ?_
    refine w_iret (fun q => by cases q) (hQ g M1 (fun j j1 j2 => (f1 s j (by
      rw [gs]; rintro ⟨q, hq, e1, e2, e3⟩; exact (by decide +kernel : ∀ q ∈ ab_w cd_22, ¬ (q.1 = 51100 ∧ q.2.1 < 184)) q hq ⟨e1, by omega⟩)).1.trans ?_))
    by_cases e : j = r
    · rw [e]; exact hn_s.trans hw
    · exact (hn_n (Or.inr e)).trans (h1.2.2 j j1 j2 e)
  intro f
  induction f with
  | zero =>
    intro n g M v6 cb sb e n1 h1
    refine w_il rfl ?_
    refine w_sp ?_
    refine w_cmge (fun c => ?_) (fun c => by exfalso; omega)
    exact fin n g M v6 _ _ h1
  | succ f ih =>
    intro n g M v6 cb sb e n1 h1
    refine w_il rfl ?_
    refine w_sp ?_
    refine w_cmge (fun c => by exfalso; omega) (fun c => ?_)
    refine w_il rfl ?_
    refine w_ifge (fun c2 => ?_) (fun c2 => ?_)
    · exact fin n g M v6 _ _ h1
    refine w_aln rfl ?_
    refine w_gr gm rfl (by decide) rfl h1.2.1 ?_
    refine w_bp ?_
    refine w_bp ?_
    refine w_iln rfl ?_
    refine w_mul ⟨by omega, by omega⟩ ?_
    refine w_add ⟨by omega, by omega⟩ ?_
    refine w_iln rfl ?_
    refine w_add ⟨by omega, by omega⟩ ?_
    refine w_il rfl ?_
    refine w_iast gs rfl (by decide) (by omega) (by show (88 : Int) + 12 * k + o < ((537 : Nat) : Int); omega) ?_
    rw [tr]
    refine w_aln rfl ?_
    refine w_cv (st := []) rfl gm rfl (Nat.le_of_ble_eq_true rfl) (fun kk h => h) (r_begins5 (dd := 38) (by decide +kernel) (h1.1.p0 (by rw [gs, show ab_rg (51100, 537).1 r = ab_ii from ab_s_b _ (by omega) (by omega)]; exact ⟨by show (-2147483648 : Int) ≤ n; omega, by show n ≤ (2147483647 : Int); omega⟩)) gm gs h1.2.1 (fun M1 I1 f1 g1 => ?_))
    have h2 : lq_mu G m s r H M1 := lq_mu.fr (M := mj_p0 M s r n) gm gs ⟨h1.1.p0 (by rw [gs, show ab_rg (51100, 537).1 r = ab_ii from ab_s_b _ (by omega) (by omega)]; exact ⟨by show (-2147483648 : Int) ≤ n; omega, by show n ≤ (2147483647 : Int); omega⟩), h1.2.1, fun j j1 j2 j3 => (hn_n (Or.inr j3)).trans (h1.2.2 j j1 j2 j3)⟩ I1 f1 (by decide +kernel) (by decide +kernel)
    refine w_ic ?_
    refine w_is ?_
    refine r_mu1 gm gs k1 k2 o1 o2 hr (o + 1).toNat 0 M1 _ _ (by omega) g1 h2 (fun M2 v6 cb sb h3 => ?_)
    have ta : ((320 : Int) + 3 * o).toNat = (320 + 3 * o).toNat := rfl
    refine w_aln rfl ?_
    refine w_gr gm rfl (by decide) rfl h3.2.1 ?_
    refine w_sp ?_
    refine w_ic ?_
    refine w_iln rfl ?_
    refine w_mul ⟨by omega, by omega⟩ ?_
    refine w_add ⟨by omega, by omega⟩ ?_
    refine w_iald (v := M2.1 s ((320 : Int) + 3 * o).toNat) gs rfl (by omega) (by show (320 : Int) + 3 * o < ((537 : Nat) : Int); omega) rfl ?_
    refine w_iln rfl ?_
    refine w_cmne (fun c3 => ?_) (fun c3 => ?_)
    · refine w_ii rfl ⟨by omega, by omega⟩ ?_
      refine w_goto ?_
      exact ih (n + 1) g M2 _ _ _ (by omega) (by omega) h3
    · refine w_aln rfl ?_
      refine w_gr gm rfl (by decide) rfl h3.2.1 ?_
      refine w_sp ?_
      refine w_ic ?_
      refine w_iln rfl ?_
      refine w_mul ⟨by omega, by omega⟩ ?_
      refine w_add ⟨by omega, by omega⟩ ?_
      refine w_ic ?_
      refine w_add ⟨by omega, by omega⟩ ?_
      refine w_iald (v := M2.1 s ((320 : Int) + 3 * o + 1).toNat) gs rfl (by omega) (by show (320 : Int) + 3 * o + 1 < ((537 : Nat) : Int); omega) rfl ?_
      refine w_ifge (fun c4 => ?_) (fun c4 => ?_)
      · refine w_ii rfl ⟨by omega, by omega⟩ ?_
        refine w_goto ?_
        exact ih (n + 1) g M2 _ _ _ (by omega) (by omega) h3
      · refine w_il rfl ?_
        refine w_is ?_
        refine w_ii rfl ⟨by omega, by omega⟩ ?_
        refine w_goto ?_
        exact ih (n + 1) n M2 _ _ _ (by omega) (by omega) h3
set_option maxRecDepth 100000 in
theorem r_X12_must5 {G : mj_G} {M : mj_M} {m s : Nat} {Q : mj_P} {z1 z2 : Int} (hI : ab_Inv G M) (gm : G m = (1012, 0)) (gs : G s = (51100, 537)) (m6 : M.2.2 m 6 = some s) (b0 : 0 ≤ M.1 s 0 ∧ M.1 s 0 ≤ 8) (h : ∀ z M', (∀ j, 88 ≤ j → j < 184 → M'.1 s j = M.1 s j) → Q (some (.inl z)) G M') : mj_R mj_tab 40 215 [.inr (.inr (some m)), .inl z1, .inl z2] G M Q := by
  have sm : s ≠ m := hn_ne gs gm (by decide)
  have es : (mj_p0 M m 0 0).1 s = M.1 s := wz_c sm
  have hI1 : ab_Inv G (mj_p0 M m 0 0) := hI.p0 (by rw [gm]; exact ⟨by decide, by decide⟩)
  refine ⟨Nat.le_of_ble_eq_true rfl, ?_⟩
  show wz 39 mt_X12_must.2.2.2.2.1 Q mt_X12_must.2.2.2.2.1 [some (.inr (.inr (some m))), some (.inl z1), some (.inl z2), none, none, none, none] [] G M _ _
  refine w_aln rfl ?_
  refine w_ic ?_
  refine w_pi gm rfl (by decide) rfl (fun q => by cases q) ?_
  refine w_aln rfl ?_
  refine w_iln rfl ?_
  refine w_cv (st := []) rfl gm rfl (Nat.le_of_ble_eq_true rfl) (fun kk h => h) ⟨Nat.le_of_ble_eq_true rfl, ?_⟩
  show wz (38) mt_X12_isTown.2.2.2.2.1 _ mt_X12_isTown.2.2.2.2.1 [some (.inr (.inr (some m))), some (.inl z1)] [] _ _ _ _
  refine w_iln rfl ?_
  refine w_ic ?_
  refine w_aln rfl ?_
  refine w_gr gm rfl (by decide) rfl (m6) ?_
  refine w_ic ?_
  refine w_iald (v := (M.1 s 0)) gs rfl (by show (0 : Int) ≤ 0; omega) (by show 0 < ((537 : Nat) : Int); omega) ((hn_n (Or.inl (hn_ne gs gm (by decide)))).trans (congrArg (M.1 s) (by show (0 : Int).toNat = 0; omega))) ?_
  refine w_ic ?_
  refine w_sub ⟨by show (-2147483648 : Int) ≤ (M.1 s 0) - 1; omega, by show (M.1 s 0) - 1 < (2147483648 : Int); omega⟩ ?_
  refine w_cs (st := []) rfl (Nat.le_of_ble_eq_true rfl) (fun kk h => h) ⟨Nat.le_of_ble_eq_true rfl, ?_⟩
  show wz (37) mt_X12_isIn.2.2.2.2.1 _ mt_X12_isIn.2.2.2.2.1 [some (.inl z1), some (.inl 0), some (.inl ((M.1 s 0) - 1))] [] _ _ _ _
  refine w_iln rfl ?_
  refine w_iln rfl ?_
  refine w_cmlt (fun c1 => ?_) (fun c1 => ?_)
  · skip
    refine w_ic ?_
    refine w_iret (fun _ => Or.inl rfl) ?_
    refine w_iret (fun _ => Or.inl rfl) ?_
    refine w_ifeq (fun c2 => ?_) (fun c2 => ?_)
    · skip
      refine w_ic ?_
      exact w_iret (fun q => by cases q) (h _ _ (fun j _ _ => by rw [es]))
    · exfalso; omega
  · skip
    refine w_iln rfl ?_
    refine w_iln rfl ?_
    refine w_cmgt (fun c3 => ?_) (fun c3 => ?_)
    · skip
      refine w_ic ?_
      refine w_iret (fun _ => Or.inl rfl) ?_
      refine w_iret (fun _ => Or.inl rfl) ?_
      refine w_ifeq (fun c4 => ?_) (fun c4 => ?_)
      · skip
        refine w_ic ?_
        exact w_iret (fun q => by cases q) (h _ _ (fun j _ _ => by rw [es]))
      · exfalso; omega
    · skip
      refine w_ic ?_
      refine w_goto ?_
      refine w_iret (fun _ => Or.inr rfl) ?_
      refine w_iret (fun _ => Or.inr rfl) ?_
      refine w_ifeq (fun c5 => ?_) (fun c5 => ?_)
      · exfalso; omega
      · skip
        refine w_iln rfl ?_
        refine w_cs (st := []) rfl (Nat.le_of_ble_eq_true rfl) (fun kk h => h) ⟨Nat.le_of_ble_eq_true rfl, ?_⟩
        show wz (38) mt_X12_isMonth.2.2.2.2.1 _ mt_X12_isMonth.2.2.2.2.1 [some (.inl z2)] [] _ _ _ _
        refine w_iln rfl ?_
        refine w_ic ?_
        refine w_bp ?_
        refine w_cs (st := []) rfl (Nat.le_of_ble_eq_true rfl) (fun kk h => h) ⟨Nat.le_of_ble_eq_true rfl, ?_⟩
        show wz (37) mt_X12_isIn.2.2.2.2.1 _ mt_X12_isIn.2.2.2.2.1 [some (.inl z2), some (.inl 0), some (.inl 11)] [] _ _ _ _
        refine w_iln rfl ?_
        refine w_iln rfl ?_
        refine w_cmlt (fun c6 => ?_) (fun c6 => ?_)
        · skip
          refine w_ic ?_
          refine w_iret (fun _ => Or.inl rfl) ?_
          refine w_iret (fun _ => Or.inl rfl) ?_
          refine w_ifne (fun c7 => ?_) (fun c7 => ?_)
          · exfalso; omega
          · skip
            refine w_ic ?_
            exact w_iret (fun q => by cases q) (h _ _ (fun j _ _ => by rw [es]))
        · skip
          refine w_iln rfl ?_
          refine w_iln rfl ?_
          refine w_cmgt (fun c8 => ?_) (fun c8 => ?_)
          · skip
            refine w_ic ?_
            refine w_iret (fun _ => Or.inl rfl) ?_
            refine w_iret (fun _ => Or.inl rfl) ?_
            refine w_ifne (fun c9 => ?_) (fun c9 => ?_)
            · exfalso; omega
            · skip
              refine w_ic ?_
              exact w_iret (fun q => by cases q) (h _ _ (fun j _ _ => by rw [es]))
          · skip
            refine w_ic ?_
            refine w_goto ?_
            refine w_iret (fun _ => Or.inr rfl) ?_
            refine w_iret (fun _ => Or.inr rfl) ?_
            refine w_ifne (fun c10 => ?_) (fun c10 => ?_)
            · skip
              refine w_aln rfl ?_
              refine w_cv (st := []) rfl gm rfl (Nat.le_of_ble_eq_true rfl) (fun kk h => h) (r_thinks (dd := 38) (by decide +kernel) hI1 gm (fun M2 I2 f2 => ?_))
              have e26 : M2.2.2 m 6 = some s := (hn_rr gm f2 (by decide +kernel)).trans m6
              have k2 : lq_ke s 0 0 M M2 := lq_ke.fr gs (fun j _ _ _ => by rw [es]) f2 (by decide +kernel)
              have tr : ((88 : Int) + 12 * z1 + z2).toNat = (88 + 12 * z1 + z2).toNat := rfl
              refine w_aln rfl ?_
              refine w_iln rfl ?_
              refine w_iln rfl ?_
              refine w_cv (st := []) rfl gm rfl (Nat.le_of_ble_eq_true rfl) (fun kk h => h) ⟨Nat.le_of_ble_eq_true rfl, ?_⟩
              show wz 38 mt_X12_bidOf.2.2.2.2.1 _ mt_X12_bidOf.2.2.2.2.1 [some (.inr (.inr (some m))), some (.inl z1), some (.inl z2)] [] _ _ _ _
              refine w_aln rfl ?_
              refine w_gr gm rfl (by decide) rfl e26 ?_
              refine w_bp ?_
              refine w_bp ?_
              refine w_iln rfl ?_
              refine w_mul ⟨by omega, by omega⟩ ?_
              refine w_add ⟨by omega, by omega⟩ ?_
              refine w_iln rfl ?_
              refine w_add ⟨by omega, by omega⟩ ?_
              refine w_iald (v := M.1 s (88 + 12 * z1 + z2).toNat) gs rfl (by omega) (by show (88 : Int) + 12 * z1 + z2 < ((537 : Nat) : Int); omega) (k2 _ (by omega) (by omega) (by omega)) ?_
              refine w_iret (fun q => by cases q) ?_
              refine w_isn ?_
              refine w_ic ?_
              refine w_is ?_
              refine w_ic ?_
              refine w_is ?_
              have vb : (-2147483648 : Int) ≤ M.1 s (88 + 12 * z1 + z2).toNat ∧ M.1 s (88 + 12 * z1 + z2).toNat ≤ 2147483647 := by
                have := hI.1 s (88 + 12 * z1 + z2).toNat
                rw [gs] at this
                rw [show ab_rg (51100, 537).1 (88 + 12 * z1 + z2).toNat = ab_ii from ab_s_b _ (by omega) (by omega)] at this
                exact this
              exact r_mu2 (H := M.1 s) (r := (88 + 12 * z1 + z2).toNat) gm gs (by omega) (by omega) (by omega) (by omega) rfl rfl vb h 999 1 (-1) M2 none _ _ (by decide) (by decide) ⟨I2, e26, fun j j1 j2 _ => k2 j j1 j2 (by omega)⟩
            · exfalso; omega
