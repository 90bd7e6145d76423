section
/-! ===== the reference's image and restore: names and the PLAIN's number (laid by a program) ===== -/
theorem rq_imA {G : mj_G} {M0 : mj_M} {m s kp : Nat} {k : Nat} {d : Nat} {Q : mj_P} (gm : G m = (1012, 0)) (gs : G s = (51100, 537)) (gk : G kp = (70100, 1076)) (r6 : M0.2.2 m 6 = some s) (r59 : M0.2.2 m 59 = some kp) (hk : k < 2) : ∀ (f i : Nat) (M : mj_M) (cb sb : Nat), i + f = 537 → M.2 = M0.2 → (∀ a, a ≠ kp → M.1 a = M0.1 a) → (∀ M' cb sb, M'.2 = M0.2 → (∀ a, a ≠ kp → M'.1 a = M0.1 a) → wz d mt_X12_image.2.2.2.2.1 Q (mt_X12_image.2.2.2.2.1.drop 29) [some (.inr (.inr (some m))), some (.inl (k : Int)), some (.inl 537)] [] G M' cb sb) → wz d mt_X12_image.2.2.2.2.1 Q (mt_X12_image.2.2.2.2.1.drop 12) [some (.inr (.inr (some m))), some (.inl (k : Int)), some (.inl (i : Int))] [] G M cb sb := by
  intro f
  induction f with
  | zero =>
    intro i M cb sb e h2 h1 kk
    have e : i = 537 := by omega
    subst e
    refine w_iln rfl ?_
    refine w_sp ?_
    refine w_cmge (fun c => ?_) (fun c => by exfalso; omega)
    exact kk M _ _ h2 h1
  | succ f ih =>
    intro i M cb sb e h2 h1 kk
    refine w_iln rfl ?_
    refine w_sp ?_
    refine w_cmge (fun c => by exfalso; omega) (fun c => ?_)
    refine w_aln rfl ?_
    refine w_gr gm rfl (by decide) rfl (by rw [h2]; exact r59) ?_
    refine w_sp ?_
    refine w_iln rfl ?_
    refine w_mul ⟨by omega, by omega⟩ ?_
    refine w_iln rfl ?_
    refine w_add ⟨by omega, by omega⟩ ?_
    refine w_aln rfl ?_
    refine w_gr gm rfl (by decide) rfl (by rw [h2]; exact r6) ?_
    refine w_iln rfl ?_
    refine w_iald (v := M.1 s (i : Int).toNat) gs rfl (by omega) (by show (i : Int) < ((537 : Nat) : Int); omega) rfl ?_
    refine w_iast gk rfl (by decide) (by omega) (by show 538 * (k : Int) + (i : Int) < ((1076 : Nat) : Int); omega) ?_
    refine w_ii rfl ⟨by omega, by omega⟩ ?_
    refine w_goto ?_
    exact ih (i + 1) _ _ _ (by omega) h2 (fun a ha => (wz_c ha).trans (h1 a ha)) kk
theorem rq_reA {G : mj_G} {M0 : mj_M} {m s kp : Nat} {k : Nat} {d : Nat} {Q : mj_P} (gm : G m = (1012, 0)) (gs : G s = (51100, 537)) (gk : G kp = (70100, 1076)) (r6 : M0.2.2 m 6 = some s) (r59 : M0.2.2 m 59 = some kp) (hk : k < 2) : ∀ (f i : Nat) (M : mj_M) (cb sb : Nat), i + f = 537 → M.2 = M0.2 → (∀ a, a ≠ s → M.1 a = M0.1 a) → (∀ M' cb sb, M'.2 = M0.2 → (∀ a, a ≠ s → M'.1 a = M0.1 a) → wz d mt_X12_restore.2.2.2.2.1 Q (mt_X12_restore.2.2.2.2.1.drop 34) [some (.inr (.inr (some m))), some (.inl (k : Int)), some (.inl 537)] [] G M' cb sb) → wz d mt_X12_restore.2.2.2.2.1 Q (mt_X12_restore.2.2.2.2.1.drop 17) [some (.inr (.inr (some m))), some (.inl (k : Int)), some (.inl (i : Int))] [] G M cb sb := by
  intro f
  induction f with
  | zero =>
    intro i M cb sb e h2 h1 kk
    have e : i = 537 := by omega
    subst e
    refine w_iln rfl ?_
    refine w_sp ?_
    refine w_cmge (fun c => ?_) (fun c => by exfalso; omega)
    exact kk M _ _ h2 h1
  | succ f ih =>
    intro i M cb sb e h2 h1 kk
    refine w_iln rfl ?_
    refine w_sp ?_
    refine w_cmge (fun c => by exfalso; omega) (fun c => ?_)
    refine w_aln rfl ?_
    refine w_gr gm rfl (by decide) rfl (by rw [h2]; exact r6) ?_
    refine w_iln rfl ?_
    refine w_aln rfl ?_
    refine w_gr gm rfl (by decide) rfl (by rw [h2]; exact r59) ?_
    refine w_sp ?_
    refine w_iln rfl ?_
    refine w_mul ⟨by omega, by omega⟩ ?_
    refine w_iln rfl ?_
    refine w_add ⟨by omega, by omega⟩ ?_
    refine w_iald (v := M.1 kp (538 * (k : Int) + (i : Int)).toNat) gk rfl (by omega) (by show 538 * (k : Int) + (i : Int) < ((1076 : Nat) : Int); omega) rfl ?_
    refine w_iast gs rfl (by decide) (by omega) (by show (i : Int) < ((537 : Nat) : Int); omega) ?_
    refine w_ii rfl ⟨by omega, by omega⟩ ?_
    refine w_goto ?_
    exact ih (i + 1) _ _ _ (by omega) h2 (fun a ha => (wz_c ha).trans (h1 a ha)) kk
theorem rq_imB {G : mj_G} {M0 : mj_M} {m nk ns : Nat} {k : Nat} {d : Nat} {Q : mj_P} (gm : G m = (1012, 0)) (gnk : G nk = (71103, 16)) (gns : G ns = (54103, 16)) (r9 : M0.2.2 m 9 = some ns) (r60 : M0.2.2 m 60 = some nk) (hk : k < 2) : ∀ (f i : Nat) (M : mj_M) (cb sb : Nat), i + f = 8 → M.1 = M0.1 → M.2.2 = M0.2.2 → (∀ j, j < i → M.2.1 nk (8 * k + j) = M0.2.1 ns j) → (∀ a j, ¬ (a = nk ∧ 8 * k ≤ j ∧ j < 8 * k + 8) → M.2.1 a j = M0.2.1 a j) → (∀ M' cb sb, M'.1 = M0.1 → M'.2.2 = M0.2.2 → (∀ j, j < 8 → M'.2.1 nk (8 * k + j) = M0.2.1 ns j) → (∀ a j, ¬ (a = nk ∧ 8 * k ≤ j ∧ j < 8 * k + 8) → M'.2.1 a j = M0.2.1 a j) → wz d mt_X12_image.2.2.2.2.1 Q (mt_X12_image.2.2.2.2.1.drop 58) [some (.inr (.inr (some m))), some (.inl (k : Int)), some (.inl 8)] [] G M' cb sb) → wz d mt_X12_image.2.2.2.2.1 Q (mt_X12_image.2.2.2.2.1.drop 41) [some (.inr (.inr (some m))), some (.inl (k : Int)), some (.inl (i : Int))] [] G M cb sb := by
  have nn : ns ≠ nk := hn_ne gns gnk (by decide)
  intro f
  induction f with
  | zero =>
    intro i M cb sb e h1 h2 h3 h4 kk
    have e : i = 8 := by omega
    subst e
    refine w_iln rfl ?_
    refine w_bp ?_
    refine w_cmge (fun c => ?_) (fun c => by exfalso; omega)
    exact kk M _ _ h1 h2 h3 h4
  | succ f ih =>
    intro i M cb sb e h1 h2 h3 h4 kk
    refine w_iln rfl ?_
    refine w_bp ?_
    refine w_cmge (fun c => by exfalso; omega) (fun c => ?_)
    refine w_aln rfl ?_
    refine w_gr gm rfl (by decide) rfl (by rw [h2]; exact r60) ?_
    refine w_bp ?_
    refine w_iln rfl ?_
    refine w_mul ⟨by omega, by omega⟩ ?_
    refine w_iln rfl ?_
    refine w_add ⟨by omega, by omega⟩ ?_
    refine w_aln rfl ?_
    refine w_gr gm rfl (by decide) rfl (by rw [h2]; exact r9) ?_
    refine w_iln rfl ?_
    refine w_lald (v := M0.2.1 ns i) gns rfl (by omega) (by show (i : Int) < ((16 : Nat) : Int); omega) (by rw [show ((i : Int)).toNat = i by omega]; exact h4 ns i (fun q => nn q.1)) ?_
    refine w_last gnk rfl (by decide) (by omega) (by show 8 * (k : Int) + (i : Int) < ((16 : Nat) : Int); omega) ?_
    refine w_ii rfl ⟨by omega, by omega⟩ ?_
    refine w_goto ?_
    rw [show (8 * (k : Int) + (i : Int)).toNat = 8 * k + i by omega]
    refine ih (i + 1) _ _ _ (by omega) h1 h2 (fun j hj => ?_) (fun a j hn => (wz_nl ?_).trans (h4 a j hn)) kk
    · rcases Nat.lt_or_ge j i with q | q
      · exact (wz_nl (Or.inr (by omega))).trans (h3 j q)
      · rw [show j = i by omega]; exact wz_sl
    · by_cases q : a = nk
      · exact Or.inr (fun e => hn ⟨q, by omega, by omega⟩)
      · exact Or.inl q
theorem rq_reB {G : mj_G} {M0 : mj_M} {m nk ns : Nat} {k : Nat} {d : Nat} {Q : mj_P} (gm : G m = (1012, 0)) (gnk : G nk = (71103, 16)) (gns : G ns = (54103, 16)) (r9 : M0.2.2 m 9 = some ns) (r60 : M0.2.2 m 60 = some nk) (hk : k < 2) : ∀ (f i : Nat) (M : mj_M) (cb sb : Nat), i + f = 8 → M.1 = M0.1 → M.2.2 = M0.2.2 → (∀ j, j < i → M.2.1 ns j = M0.2.1 nk (8 * k + j)) → (∀ a j, ¬ (a = ns ∧ j < 8) → M.2.1 a j = M0.2.1 a j) → (∀ M' cb sb, M'.1 = M0.1 → M'.2.2 = M0.2.2 → (∀ j, j < 8 → M'.2.1 ns j = M0.2.1 nk (8 * k + j)) → (∀ a j, ¬ (a = ns ∧ j < 8) → M'.2.1 a j = M0.2.1 a j) → wz d mt_X12_restore.2.2.2.2.1 Q (mt_X12_restore.2.2.2.2.1.drop 63) [some (.inr (.inr (some m))), some (.inl (k : Int)), some (.inl 8)] [] G M' cb sb) → wz d mt_X12_restore.2.2.2.2.1 Q (mt_X12_restore.2.2.2.2.1.drop 46) [some (.inr (.inr (some m))), some (.inl (k : Int)), some (.inl (i : Int))] [] G M cb sb := by
  have nn : nk ≠ ns := hn_ne gnk gns (by decide)
  intro f
  induction f with
  | zero =>
    intro i M cb sb e h1 h2 h3 h4 kk
    have e : i = 8 := by omega
    subst e
    refine w_iln rfl ?_
    refine w_bp ?_
    refine w_cmge (fun c => ?_) (fun c => by exfalso; omega)
    exact kk M _ _ h1 h2 h3 h4
  | succ f ih =>
    intro i M cb sb e h1 h2 h3 h4 kk
    refine w_iln rfl ?_
    refine w_bp ?_
    refine w_cmge (fun c => by exfalso; omega) (fun c => ?_)
    refine w_aln rfl ?_
    refine w_gr gm rfl (by decide) rfl (by rw [h2]; exact r9) ?_
    refine w_iln rfl ?_
    refine w_aln rfl ?_
    refine w_gr gm rfl (by decide) rfl (by rw [h2]; exact r60) ?_
    refine w_bp ?_
    refine w_iln rfl ?_
    refine w_mul ⟨by omega, by omega⟩ ?_
    refine w_iln rfl ?_
    refine w_add ⟨by omega, by omega⟩ ?_
    refine w_lald (v := M0.2.1 nk (8 * k + i)) gnk rfl (by omega) (by show 8 * (k : Int) + (i : Int) < ((16 : Nat) : Int); omega) (by rw [show (8 * (k : Int) + (i : Int)).toNat = 8 * k + i by omega]; exact h4 nk _ (fun q => nn q.1)) ?_
    refine w_last gns rfl (by decide) (by omega) (by show (i : Int) < ((16 : Nat) : Int); omega) ?_
    refine w_ii rfl ⟨by omega, by omega⟩ ?_
    refine w_goto ?_
    rw [show ((i : Int)).toNat = i by omega]
    refine ih (i + 1) _ _ _ (by omega) h1 h2 (fun j hj => ?_) (fun a j hn => (wz_nl ?_).trans (h4 a j hn)) kk
    · rcases Nat.lt_or_ge j i with q | q
      · exact (wz_nl (Or.inr (by omega))).trans (h3 j q)
      · rw [show j = i by omega]; exact wz_sl
    · by_cases q : a = ns
      · exact Or.inr (fun e => hn ⟨q, by omega⟩)
      · exact Or.inl q
/-- what image, restore of the reference tell of names and the PLAIN's number -/
def rq_mz (M M' : mj_M) (m kp nk ns : Nat) (z1 : Int) : Prop := (¬ (0 ≤ z1 ∧ z1 ≤ 1) → M'.2.1 = M.2.1 ∧ (∀ a, a ≠ m → M'.1 a = M.1 a) ∧ M'.1 m 25 = M.1 m 25) ∧ (∀ k : Nat, k < 2 → z1 = (k : Int) → (∀ j, j < 8 → M'.2.1 nk (8 * k + j) = M.2.1 ns j) ∧ (∀ a j, ¬ (a = nk ∧ 8 * k ≤ j ∧ j < 8 * k + 8) → M'.2.1 a j = M.2.1 a j) ∧ M'.1 kp (538 * k + 537) = M.1 m 25 ∧ M'.1 m 25 = M.1 m 25)
def rq_rz (M M' : mj_M) (m kp nk ns ik : Nat) (z1 : Int) : Prop := ((¬ (0 ≤ z1 ∧ z1 ≤ 1) ∨ M.1 ik z1.toNat = 0) → M'.2.1 = M.2.1 ∧ (∀ a, a ≠ m → M'.1 a = M.1 a) ∧ M'.1 m 25 = M.1 m 25) ∧ (∀ k : Nat, k < 2 → z1 = (k : Int) → M.1 ik k ≠ 0 → (∀ j, j < 8 → M'.2.1 ns j = M.2.1 nk (8 * k + j)) ∧ (∀ a j, ¬ (a = ns ∧ j < 8) → M'.2.1 a j = M.2.1 a j) ∧ M'.1 m 25 = M.1 kp (538 * k + 537))
theorem rq_image {G : mj_G} {M : mj_M} {m s kp nk ns ik : Nat} {z1 : Int} {d : Nat} (gm : G m = (1012, 0)) (gs : G s = (51100, 537)) (gk : G kp = (70100, 1076)) (gnk : G nk = (71103, 16)) (gns : G ns = (54103, 16)) (gik : G ik = (72102, 2)) (r6 : M.2.2 m 6 = some s) (r59 : M.2.2 m 59 = some kp) (r60 : M.2.2 m 60 = some nk) (r9 : M.2.2 m 9 = some ns) (r61 : M.2.2 m 61 = some ik) : mj_R mj_tab (d + 2) 195 [.inr (.inr (some m)), .inl z1] G M (fun _ _ M' => rq_mz M M' m kp nk ns z1) := by
  refine ⟨Nat.le_of_ble_eq_true rfl, ?_⟩
  show wz (d + 1) mt_X12_image.2.2.2.2.1 _ mt_X12_image.2.2.2.2.1 [some (.inr (.inr (some m))), some (.inl z1), none] [] G M _ _
  have bad : ¬ (0 ≤ z1 ∧ z1 ≤ 1) → ∀ cb sb, wz (d + 1) mt_X12_image.2.2.2.2.1 (fun _ _ M' => rq_mz M M' m kp nk ns z1) (mt_X12_image.2.2.2.2.1.drop 7) [some (.inr (.inr (some m))), some (.inl z1), none] [.inl 0] G (mj_p0 M m 0 0) cb sb := fun hn cb sb => by
    refine w_ifne (fun c => absurd rfl c) (fun _ => ?_)
    refine w_ic ?_
    exact w_iret (fun _ => Or.inl rfl) ⟨fun _ => ⟨rfl, fun a ha => wz_c ha, hn_n (Or.inr (by decide))⟩, fun k hk e => absurd ⟨by omega, by omega⟩ hn⟩
  refine w_aln rfl ?_
  refine w_ic ?_
  refine w_pi gm rfl (by decide) rfl (fun q => by cases q) ?_
  refine w_iln rfl ?_
  refine w_ic ?_
  refine w_ic ?_
  refine w_cs (st := []) rfl (Nat.le_of_ble_eq_true rfl) (fun kk h => h) ⟨Nat.le_of_ble_eq_true rfl, ?_⟩
  show wz d mt_X12_isIn.2.2.2.2.1 _ mt_X12_isIn.2.2.2.2.1 [some (.inl z1), some (.inl 0), some (.inl 1)] [] _ _ _ _
  refine w_iln rfl ?_
  refine w_iln rfl ?_
  refine w_cmlt (fun c1 => ?_) (fun c1 => ?_)
  · refine w_ic ?_
    refine w_iret (fun _ => Or.inl rfl) ?_
    exact bad (by omega) _ _
  refine w_iln rfl ?_
  refine w_iln rfl ?_
  refine w_cmgt (fun c2 => ?_) (fun c2 => ?_)
  · refine w_ic ?_
    refine w_iret (fun _ => Or.inl rfl) ?_
    exact bad (by omega) _ _
  refine w_ic ?_
  refine w_goto ?_
  refine w_iret (fun _ => Or.inr rfl) ?_
  obtain ⟨k, hk, ek⟩ : ∃ k : Nat, k < 2 ∧ z1 = (k : Int) := ⟨z1.toNat, by omega, by omega⟩
  subst ek
  refine w_ifne (fun _ => ?_) (fun c => absurd c (by decide))
  refine w_ic ?_
  refine w_isn ?_
  refine rq_imA (M0 := mj_p0 M m 0 0) gm gs gk r6 r59 hk 537 0 _ _ _ (by omega) rfl (fun _ _ => rfl) (fun M1 cb sb u2 u1 => ?_)
  refine w_aln rfl ?_
  refine w_gr gm rfl (by decide) rfl (by rw [u2]; exact r59) ?_
  refine w_sp ?_
  refine w_iln rfl ?_
  refine w_mul ⟨by omega, by omega⟩ ?_
  refine w_sp ?_
  refine w_add ⟨by omega, by omega⟩ ?_
  refine w_aln rfl ?_
  have mk : m ≠ kp := hn_ne gm gk (by decide)
  refine w_gi (v := M.1 m 25) gm rfl (by decide) rfl ((congrFun (u1 m mk) 25).trans (hn_n (Or.inr (by decide)))) ?_
  refine w_iast gk rfl (by decide) (by omega) (by show 538 * (k : Int) + 537 < ((1076 : Nat) : Int); omega) ?_
  rw [show (538 * (k : Int) + 537).toNat = 538 * k + 537 by omega]
  refine w_ic ?_
  refine w_isn ?_
  refine rq_imB (M0 := mj_p0 M1 kp (538 * k + 537) (M.1 m 25)) gm gnk gns (by show M1.2.2 m 9 = _; rw [u2]; exact r9) (by show M1.2.2 m 60 = _; rw [u2]; exact r60) hk 8 0 _ _ _ (by omega) rfl rfl (fun j hj => absurd hj (Nat.not_lt_zero j)) (fun _ _ _ => rfl) (fun M2 cb sb v1 v2 v3 v4 => ?_)
  refine w_aln rfl ?_
  refine w_gr gm rfl (by decide) rfl (by rw [v2]; show M1.2.2 m 61 = _; rw [u2]; exact r61) ?_
  refine w_iln rfl ?_
  refine w_ic ?_
  refine w_zast (Or.inr rfl) gik rfl (by decide) (by omega) (by show (k : Int) < ((2 : Nat) : Int); omega) ?_
  refine w_ic ?_
  refine w_iret (fun _ => Or.inr rfl) ⟨fun n => absurd ⟨by omega, by omega⟩ n, fun k' hk' e => ?_⟩
  obtain rfl : k' = k := by omega
  refine ⟨fun j hj => ?_, fun a j hn => ?_, ?_, ?_⟩
  · show M2.2.1 nk (8 * k' + j) = _
    rw [v3 j hj]; show M1.2.1 ns j = _; rw [u2]; rfl
  · show M2.2.1 a j = _
    rw [v4 a j hn]; show M1.2.1 a j = _; rw [u2]; rfl
  · refine (hn_n (Or.inl (hn_ne gk gik (by decide)))).trans ?_
    rw [v1]; exact hn_s
  · refine (hn_n (Or.inl (hn_ne gm gik (by decide)))).trans ?_
    rw [v1]; exact (hn_n (Or.inl mk)).trans ((congrFun (u1 m mk) 25).trans (hn_n (Or.inr (by decide))))
theorem rq_restore {G : mj_G} {M : mj_M} {m s kp nk ns ik : Nat} {z1 : Int} {d : Nat} (gm : G m = (1012, 0)) (gs : G s = (51100, 537)) (gk : G kp = (70100, 1076)) (gnk : G nk = (71103, 16)) (gns : G ns = (54103, 16)) (gik : G ik = (72102, 2)) (r6 : M.2.2 m 6 = some s) (r59 : M.2.2 m 59 = some kp) (r60 : M.2.2 m 60 = some nk) (r9 : M.2.2 m 9 = some ns) (r61 : M.2.2 m 61 = some ik) : mj_R mj_tab (d + 2) 235 [.inr (.inr (some m)), .inl z1] G M (fun _ _ M' => rq_rz M M' m kp nk ns ik z1) := by
  refine ⟨Nat.le_of_ble_eq_true rfl, ?_⟩
  show wz (d + 1) mt_X12_restore.2.2.2.2.1 _ mt_X12_restore.2.2.2.2.1 [some (.inr (.inr (some m))), some (.inl z1), none] [] G M _ _
  have bad2 : (¬ (0 ≤ z1 ∧ z1 ≤ 1) ∨ M.1 ik z1.toNat = 0) → ∀ cb sb, wz (d + 1) mt_X12_restore.2.2.2.2.1 (fun _ _ M' => rq_rz M M' m kp nk ns ik z1) (mt_X12_restore.2.2.2.2.1.drop 13) [some (.inr (.inr (some m))), some (.inl z1), none] [] G (mj_p0 M m 0 0) cb sb := fun hn cb sb => by
    refine w_ic ?_
    refine w_iret (fun _ => Or.inl rfl) ⟨fun _ => ⟨rfl, fun a ha => wz_c ha, hn_n (Or.inr (by decide))⟩, fun k hk e h0 => ?_⟩
    rcases hn with hn | hn
    · exact absurd ⟨by omega, by omega⟩ hn
    · rw [e] at hn; exact absurd hn h0
  have bad : ¬ (0 ≤ z1 ∧ z1 ≤ 1) → ∀ cb sb, wz (d + 1) mt_X12_restore.2.2.2.2.1 (fun _ _ M' => rq_rz M M' m kp nk ns ik z1) (mt_X12_restore.2.2.2.2.1.drop 7) [some (.inr (.inr (some m))), some (.inl z1), none] [.inl 0] G (mj_p0 M m 0 0) cb sb := fun hn cb sb => by
    refine w_ifeq (fun _ => bad2 (Or.inl hn) _ _) (fun c => absurd rfl c)
  refine w_aln rfl ?_
  refine w_ic ?_
  refine w_pi gm rfl (by decide) rfl (fun q => by cases q) ?_
  refine w_iln rfl ?_
  refine w_ic ?_
  refine w_ic ?_
  refine w_cs (st := []) rfl (Nat.le_of_ble_eq_true rfl) (fun kk h => h) ⟨Nat.le_of_ble_eq_true rfl, ?_⟩
  show wz d mt_X12_isIn.2.2.2.2.1 _ mt_X12_isIn.2.2.2.2.1 [some (.inl z1), some (.inl 0), some (.inl 1)] [] _ _ _ _
  refine w_iln rfl ?_
  refine w_iln rfl ?_
  refine w_cmlt (fun c1 => ?_) (fun c1 => ?_)
  · refine w_ic ?_
    refine w_iret (fun _ => Or.inl rfl) ?_
    exact bad (by omega) _ _
  refine w_iln rfl ?_
  refine w_iln rfl ?_
  refine w_cmgt (fun c2 => ?_) (fun c2 => ?_)
  · refine w_ic ?_
    refine w_iret (fun _ => Or.inl rfl) ?_
    exact bad (by omega) _ _
  refine w_ic ?_
  refine w_goto ?_
  refine w_iret (fun _ => Or.inr rfl) ?_
  obtain ⟨k, hk, ek⟩ : ∃ k : Nat, k < 2 ∧ z1 = (k : Int) := ⟨z1.toNat, by omega, by omega⟩
  subst ek
  refine w_ifeq (fun c => absurd c (by decide)) (fun _ => ?_)
  refine w_aln rfl ?_
  refine w_gr gm rfl (by decide) rfl r61 ?_
  refine w_iln rfl ?_
  refine w_zald (v := M.1 ik k) gik rfl (by omega) (by show (k : Int) < ((2 : Nat) : Int); omega) (by rw [show ((k : Int)).toNat = k by omega]; exact hn_n (Or.inl (hn_ne gik gm (by decide)))) ?_
  refine w_ifne (fun c3 => ?_) (fun c3 => bad2 (Or.inr (by rw [show ((k : Int)).toNat = k by omega]; exact c3)) _ _)
  refine w_ic ?_
  refine w_isn ?_
  refine rq_reA (M0 := mj_p0 M m 0 0) gm gs gk r6 r59 hk 537 0 _ _ _ (by omega) rfl (fun _ _ => rfl) (fun M1 cb sb u2 u1 => ?_)
  refine w_aln rfl ?_
  refine w_aln rfl ?_
  refine w_gr gm rfl (by decide) rfl (by rw [u2]; exact r59) ?_
  refine w_sp ?_
  refine w_iln rfl ?_
  refine w_mul ⟨by omega, by omega⟩ ?_
  refine w_sp ?_
  refine w_add ⟨by omega, by omega⟩ ?_
  refine w_iald (v := M.1 kp (538 * k + 537)) gk rfl (by omega) (by show 538 * (k : Int) + 537 < ((1076 : Nat) : Int); omega) (by rw [show (538 * (k : Int) + 537).toNat = 538 * k + 537 by omega]; exact (congrFun (u1 kp (hn_ne gk gs (by decide))) _).trans (hn_n (Or.inl (hn_ne gk gm (by decide))))) ?_
  refine w_pi gm rfl (by decide) rfl (fun q => by cases q) ?_
  refine w_ic ?_
  refine w_isn ?_
  refine rq_reB (M0 := mj_p0 M1 m 25 (M.1 kp (538 * k + 537))) gm gnk gns (by show M1.2.2 m 9 = _; rw [u2]; exact r9) (by show M1.2.2 m 60 = _; rw [u2]; exact r60) hk 8 0 _ _ _ (by omega) rfl rfl (fun j hj => absurd hj (Nat.not_lt_zero j)) (fun _ _ _ => rfl) (fun M2 cb sb v1 v2 v3 v4 => ?_)
  refine w_aln rfl ?_
  refine w_ic ?_
  refine w_pi gm rfl (by decide) rfl (fun q => by cases q) ?_
  refine w_ic ?_
  refine w_iret (fun _ => Or.inr rfl) ⟨fun n => ?_, fun k' hk' e h0 => ?_⟩
  · exfalso
    rcases n with n | n
    · exact n ⟨by omega, by omega⟩
    · rw [show ((k : Int)).toNat = k by omega] at n; exact c3 n
  obtain rfl : k' = k := by omega
  refine ⟨fun j hj => ?_, fun a j hn => ?_, ?_⟩
  · show M2.2.1 ns j = _
    rw [v3 j hj]; show M1.2.1 nk (8 * k' + j) = _; rw [u2]; rfl
  · show M2.2.1 a j = _
    rw [v4 a j hn]; show M1.2.1 a j = _; rw [u2]; rfl
  · refine (hn_n (Or.inr (by decide))).trans ?_
    rw [v1]; exact hn_s
end
section
/-! ===== names of the PLAINS now and of the images, alike on both sides ===== -/
def nz_1 (M : mj_M) (c a off : Nat) (n : Int) : Prop := ∃ nm : Nat → List Int, (∀ j, j < 8 → M.2.1 c j = rv_5 (nm j) ∧ rv_wo (nm j)) ∧ (∀ j : Nat, (j : Int) < n → M.2.1 a (off + j) = rv_8 (nm j))
theorem nz_1.cg {M M' : mj_M} {c a off c' a' off' : Nat} {n n' : Int} (h : nz_1 M c a off n) (e1 : ∀ j, j < 8 → M'.2.1 c' j = M.2.1 c j) (e2 : ∀ j : Nat, (j : Int) < n' → M'.2.1 a' (off' + j) = M.2.1 a (off + j)) (en : n' ≤ n) : nz_1 M' c' a' off' n' := by
  obtain ⟨nm, h1, h2⟩ := h
  exact ⟨nm, fun j hj => by rw [e1 j hj]; exact h1 j hj, fun j hj => by rw [e2 j hj]; exact h2 j (by omega)⟩
def nz_R (G : mj_G) (M : mj_M) (m ns nk : Nat) : Prop := M.2.2 m 9 = some ns ∧ G ns = (54103, 16) ∧ M.2.2 m 60 = some nk ∧ G nk = (71103, 16)
def nz_N (M : mj_M) (s ns : Nat) (w : Nat → Nat) : Prop := ∀ p q, lq_N M w p q → nz_1 M (w (p + 1)) ns 0 (M.1 s 0)
def nz_I (M : mj_M) (kp kc nk : Nat) (w : Nat → Nat) : Prop := ∀ k : Nat, k < 2 → M.1 kc k ≠ 0 → nz_1 M (w (lq_ip k + 1)) nk (8 * k) (M.1 kp (538 * k))
def nz (G : mj_G) (M : mj_M) (s m kp kc : Nat) (w : Nat → Nat) : Prop := ∃ ns nk, nz_R G M m ns nk ∧ nz_N M s ns w ∧ nz_I M kp kc nk w
abbrev nz_c (W : List (Nat × Nat × Nat)) : Prop := ∀ q ∈ W, ¬ (q.1 = 51100 ∧ q.2.1 = 0) ∧ q.1 ≠ 70100 ∧ q.1 ≠ 48102 ∧ ¬ (q.1 = 1012 ∧ q.2.1 ≤ 9 ∧ 9 ≤ q.2.2) ∧ ¬ (q.1 = 1012 ∧ q.2.1 ≤ 60 ∧ 60 ≤ q.2.2) ∧ ¬ (q.1 = 1007 ∧ q.2.1 = 0)
section NZ
variable {G : mj_G} {M M' : mj_M} {x s m kp kc ud tp : Nat} {w : Nat → Nat} {z1 : Int}
theorem lq_N.back (e1 : M'.2.2 (w 29) 0 = M.2.2 (w 29) 0) (e2 : M'.2.2 (w 74) 0 = M.2.2 (w 74) 0) {p q : Nat} (h : lq_N M' w p q) : lq_N M w p q := ⟨e1.symm.trans h.1, e2.symm.trans h.2.1, h.2.2⟩
theorem nz_na (hA : lq_A G w) {P : Nat} (hP : P ∈ lq_Ps) : (G (w (P + 1))).1 % 1000 = 103 := by rw [(hA.2.1 P hP).2.1]; rfl
theorem nz.cg (h : nz G M s m kp kc w) (hA : lq_A G w) (r9 : M'.2.2 m 9 = M.2.2 m 9) (r60 : M'.2.2 m 60 = M.2.2 m 60) (n1 : M'.2.2 (w 29) 0 = M.2.2 (w 29) 0) (n2 : M'.2.2 (w 74) 0 = M.2.2 (w 74) 0) (es : M'.1 s 0 = M.1 s 0) (ek : M'.1 kp = M.1 kp) (ec : M'.1 kc = M.1 kc) (l : ∀ a k, (G a).1 % 1000 = 103 → (∀ p q, lq_N M w p q → a ≠ w (q + 1)) → M'.2.1 a k = M.2.1 a k) : nz G M' s m kp kc w := by
  obtain ⟨ns, nk, ⟨r1, r2, r3, r4⟩, hN, hI⟩ := h
  have ln_ : ∀ k, M'.2.1 ns k = M.2.1 ns k := fun k => l ns k (by rw [r2]; rfl) (fun p q hn e => hn_ne r2 ((hA.2.1 q hn.qin.1).2.1) (by decide) e)
  have lk : ∀ k, M'.2.1 nk k = M.2.1 nk k := fun k => l nk k (by rw [r4]; rfl) (fun p q hn e => hn_ne r4 ((hA.2.1 q hn.qin.1).2.1) (by decide) e)
  refine ⟨ns, nk, ⟨r9.trans r1, r2, r60.trans r3, r4⟩, fun p q hn => ?_, fun k hk h0 => ?_⟩
  · have hn0 := lq_N.back n1 n2 hn
    refine (hN p q hn0).cg (fun j _ => l _ j (nz_na hA hn0.pin.1) (fun p' q' hn' e => ?_)) (fun j _ => ln_ _) (by rw [es]; exact Int.le_refl _)
    have h4 := lq_P4 hn0.pin.1
    have h5 := lq_P4 hn'.qin.1
    have e := hA.1 _ _ (by omega) (by omega) e
    have := hn0.2.2; have := hn'.2.2; have a := Option.some.inj (hn0.1.symm.trans hn'.1)
    have := hA.1 _ _ (by omega) (by have := lq_P4 hn'.pin.1; omega) a
    omega
  · rw [ec] at h0; rw [ek]
    refine (hI k hk h0).cg (fun j _ => l _ j (nz_na hA (lq_ip_in k)) (fun p' q' hn' e => ?_)) (fun j _ => lk _) (Int.le_refl _)
    have h4 := lq_P4 (lq_ip_in k)
    have h5 := lq_P4 hn'.qin.1
    have e := hA.1 _ _ (by omega) (by omega) e
    exact hn'.nip k (by omega)
theorem nz.go {W : List (Nat × Nat × Nat)} (h : nz G M s m kp kc w) (hA : lq_A G w) (gm : G m = (1012, 0)) (gs : G s = (51100, 537)) (gk : G kp = (70100, 1076)) (gc : G kc = (48102, 2)) (f : ab_frm W G M M') (l : ln G M M') (c : nz_c W) : nz G M' s m kp kc w :=
  h.cg hA (f m 9 (by rw [gm]; rintro ⟨r, hr, e1, e2, e3⟩; exact (c r hr).2.2.2.1 ⟨e1, e2, e3⟩)).2 (f m 60 (by rw [gm]; rintro ⟨r, hr, e1, e2, e3⟩; exact (c r hr).2.2.2.2.1 ⟨e1, e2, e3⟩)).2 (f _ 0 (by rw [hA.2.2.1]; rintro ⟨r, hr, e1, e2, e3⟩; exact (c r hr).2.2.2.2.2 ⟨e1, by omega⟩)).2 (f _ 0 (by rw [hA.2.2.2.1]; rintro ⟨r, hr, e1, e2, e3⟩; exact (c r hr).2.2.2.2.2 ⟨e1, by omega⟩)).2 (f s 0 (by rw [gs]; rintro ⟨r, hr, e1, e2, e3⟩; exact (c r hr).1 ⟨e1, by omega⟩)).1 (funext fun k => (f kp k (by rw [gk]; rintro ⟨r, hr, e1, e2, e3⟩; exact (c r hr).2.1 e1)).1) (funext fun k => (f kc k (by rw [gc]; rintro ⟨r, hr, e1, e2, e3⟩; exact (c r hr).2.2.1 e1)).1) (fun a k ha _ => l a k ha)
theorem nz.mv (h : nz G M s m kp kc w) (hA : lq_A G w) (e1 : M'.1 = M.1) (e2 : M'.2.2 = M.2.2) (l : ∀ a k, (G a).1 % 1000 = 103 → (G a).1 ≠ 90103 → M'.2.1 a k = M.2.1 a k) : nz G M' s m kp kc w := by
  obtain ⟨ns, nk, ⟨r1, r2, r3, r4⟩, hN, hI⟩ := h
  refine ⟨ns, nk, ⟨by rw [e2]; exact r1, r2, by rw [e2]; exact r3, r4⟩, fun p q hn => ?_, fun k hk h0 => ?_⟩
  · have hn0 : lq_N M w p q := lq_N.back (by rw [e2]) (by rw [e2]) hn
    rw [e1]
    exact (hN p q hn0).cg (fun j _ => l _ j (nz_na hA hn0.pin.1) (by rw [(hA.2.1 p hn0.pin.1).2.1]; decide)) (fun j _ => l _ _ (by rw [r2]; rfl) (by rw [r2]; decide)) (Int.le_refl _)
  · rw [e1] at h0 ⊢
    exact (hI k hk h0).cg (fun j _ => l _ j (nz_na hA (lq_ip_in k)) (by rw [(hA.2.1 _ (lq_ip_in k)).2.1]; decide)) (fun j _ => l _ _ (by rw [r4]; rfl) (by rw [r4]; decide)) (Int.le_refl _)
/-- between plain of the class and of the reference -/
def nz_p (G : mj_G) (M : mj_M) (s m kp kc : Nat) (w : Nat → Nat) (y : rv_Om) : Prop := ∃ ns nk, nz_R G M m ns nk ∧ nz_I M kp kc nk w ∧ (∀ e, y = .inl e → nz_N M s ns w) ∧ (∀ PL WA OA TO BI nm r, y = .inr (PL, WA, OA, TO, BI, nm, r) → ∀ p q, lq_N M w p q → ∀ j, j < 8 → M.2.1 (w (p + 1)) j = rv_5 (nm j) ∧ rv_wo (nm j))
theorem nz.pl1 {y : rv_Om} (h : nz G M s m kp kc w) (hA : lq_A G w) (gx : G x = (1011, 0)) (gm : G m = (1012, 0)) (gtp : G tp = (1008, 0)) (gs : G s = (51100, 537)) (gk : G kp = (70100, 1076)) (gc : G kc = (48102, 2)) (py : lq_py G M M' x tp w y) : nz_p G M' s m kp kc w y := by
  obtain ⟨p, q, oa, dl, fa, sa, ca, se, ye, ud, hN, goa, hX, hF, hO⟩ := py
  obtain ⟨⟨-, g74, g29, gse, gye, gud, gdl, gfa, gsa, gca, -⟩, -⟩ := hX
  obtain ⟨gq, gqn, -, -, gqw, gqt, gqb⟩ := hA.2.1 q hN.qin.1
  have hp4 := lq_P4 hN.pin.1
  have hq4 := lq_P4 hN.qin.1
  have npq : p ≠ q := hN.qin.2
  have np1 : w (p + 1) ≠ w (q + 1) := fun e => by have := hA.1 _ _ (by omega) (by omega) e; omega
  have ni : ∀ k, w (lq_ip k + 1) ≠ w (q + 1) := fun k e => by
    have h4 := lq_P4 (lq_ip_in k)
    have := hA.1 _ _ (by omega) (by omega) e
    exact hN.nip k (by omega)
  rcases y with e | ⟨PL, WA, OA, TO, BI, nm, r⟩
  · obtain ⟨⟨f2, fl, f1⟩, -⟩ := hF e rfl
    have rf : ∀ a j, a ≠ tp → M'.2.2 a j = M.2.2 a j := fun a j ha => f2 a j (fun e => ha e.1)
    have tg : ∀ {a t u : Nat}, G a = (t, u) → t ≠ 1004 → t ≠ 26100 → t ≠ 28100 → t ≠ 29100 → t ≠ 30100 → t ≠ 1011 → t ≠ 1008 → M'.1 a = M.1 a := fun ga n1 n4 n6 n7 n8 n9 n10 => f1 _ (hn_ne ga gx n9) (hn_ne ga gtp n10) (hn_ne ga gq n1) (hn_ne ga gqw n7) (hn_ne ga goa n8) (fun t ht => hn_ne ga (gqt t ht) n4) (fun t ht => hn_ne ga (gqb t ht) n6)
    obtain ⟨ns, nk, hR, h1, h2⟩ := h.cg hA (rf m 9 (hn_ne gm gtp (by decide))) (rf m 60 (hn_ne gm gtp (by decide))) (rf _ 0 (hn_ne g29 gtp (by decide))) (rf _ 0 (hn_ne g74 gtp (by decide))) (congrFun (tg gs (by decide) (by decide) (by decide) (by decide) (by decide) (by decide) (by decide)) 0) (tg gk (by decide) (by decide) (by decide) (by decide) (by decide) (by decide) (by decide)) (tg gc (by decide) (by decide) (by decide) (by decide) (by decide) (by decide) (by decide)) (fun a k ha hn => congrFun (fl a (hn p q hN) (fun e => by rw [e, gtp] at ha; exact absurd ha (by decide))) k)
    exact ⟨ns, nk, hR, h2, fun _ _ => h1, (fun _ _ _ _ _ _ _ e => by cases e)⟩
  · obtain ⟨⟨o1, o2, o3, o4, o5, o6, o7, o8, o9, fo⟩, -⟩ := hO _ _ _ _ _ _ _ rfl
    obtain ⟨ns, nk, ⟨r1, r2, r3, r4⟩, h1, h2⟩ := h
    have ne2 : w 74 ≠ w 29 := fun e => absurd (hA.1 _ _ (by decide) (by decide) e) (by decide)
    have tg : ∀ {a t u : Nat}, G a = (t, u) → t ≠ 1004 → t ≠ 26100 → t ≠ 28100 → t ≠ 29100 → t ≠ 30100 → t ≠ 1011 → t ≠ 1008 → t ≠ 1002 → t ≠ 16100 → t ≠ 17100 → t ≠ 18100 → t ≠ 1006 → t ≠ 1010 → t ≠ 1009 → M'.1 a = M.1 a := fun ga n1 n4 n6 n7 n8 n9 n10 m1 m2 m3 m4 m5 m6 m7 => fo _ (hn_ne ga gx n9) (hn_ne ga gtp n10) (hn_ne ga gq n1) (hn_ne ga gqw n7) (hn_ne ga goa n8) (fun t ht => hn_ne ga (gqt t ht) n4) (fun t ht => hn_ne ga (gqb t ht) n6) (hn_ne ga gdl m1) (hn_ne ga gfa m2) (hn_ne ga gsa m3) (hn_ne ga gca m4) (hn_ne ga gse m5) (hn_ne ga gye m6) (hn_ne ga gud m7)
    have ek : M'.1 kp = M.1 kp := tg gk (by decide) (by decide) (by decide) (by decide) (by decide) (by decide) (by decide) (by decide) (by decide) (by decide) (by decide) (by decide) (by decide) (by decide)
    have ec : M'.1 kc = M.1 kc := tg gc (by decide) (by decide) (by decide) (by decide) (by decide) (by decide) (by decide) (by decide) (by decide) (by decide) (by decide) (by decide) (by decide) (by decide)
    have rm : ∀ j, M'.2.2 m j = M.2.2 m j := fun j => o8 m j (fun e => hn_ne gm gtp (by decide) e.1) (fun e => hn_ne gm g29 (by decide) e.1) (fun e => hn_ne gm g74 (by decide) e.1)
    have lo : ∀ a k, (G a).1 % 1000 = 103 → a ≠ w (q + 1) → M'.2.1 a k = M.2.1 a k := fun a k ha hn => congrFun (o9 a hn (fun e => by rw [e, gtp] at ha; exact absurd ha (by decide))) k
    refine ⟨ns, nk, ⟨(rm 9).trans r1, r2, (rm 60).trans r3, r4⟩, fun k hk h0 => ?_, (fun _ e => by cases e), fun PL2 WA2 OA2 TO2 BI2 nm2 r2 e p' q' hn j hj => ?_⟩
    · rw [ec] at h0; rw [ek]
      exact (h2 k hk h0).cg (fun j _ => lo _ j (nz_na hA (lq_ip_in k)) (ni k)) (fun j _ => lo _ _ (by rw [r4]; rfl) (hn_ne r4 gqn (by decide))) (Int.le_refl _)
    · cases e
      have e1 := Option.some.inj (hn.1.symm.trans o6)
      have hp' := lq_P4 hn.pin.1
      have : p' = q := hA.1 _ _ (by omega) (by omega) e1
      rw [this]; exact o5 j hj
theorem nz_p.pl2 {y : rv_Om} {W : List (Nat × Nat × Nat)} (h : nz_p G M s m kp kc w y) (hA : lq_A G w) (gm : G m = (1012, 0)) (gk : G kp = (70100, 1076)) (gc : G kc = (48102, 2)) (f : ab_frm W G M M') (c : ∀ q ∈ W, q.1 ≠ 70100 ∧ q.1 ≠ 48102 ∧ ¬ (q.1 = 1012 ∧ q.2.1 ≤ 9 ∧ 9 ≤ q.2.2) ∧ ¬ (q.1 = 1012 ∧ q.2.1 ≤ 60 ∧ 60 ≤ q.2.2) ∧ q.1 ≠ 1007) (b8 : M.1 s 0 ≤ 8) (pz : lq_pz M M' s m y) (o2 : ∀ PL WA OA TO BI nm r, y = .inr (PL, WA, OA, TO, BI, nm, r) → ∃ ns, M.2.2 m 9 = some ns ∧ rv_QO s ns PL WA TO BI nm M') : nz G M' s m kp kc w := by
  obtain ⟨ns, nk, ⟨r1, r2, r3, r4⟩, hI, h1, h2⟩ := h
  have r9 := (f m 9 (by rw [gm]; rintro ⟨r, hr, e1, e2, e3⟩; exact (c r hr).2.2.1 ⟨e1, e2, e3⟩)).2
  have r60 := (f m 60 (by rw [gm]; rintro ⟨r, hr, e1, e2, e3⟩; exact (c r hr).2.2.2.1 ⟨e1, e2, e3⟩)).2
  have n1 := (f (w 29) 0 (by rw [hA.2.2.1]; rintro ⟨r, hr, e1, e2, e3⟩; exact (c r hr).2.2.2.2 e1)).2
  have n2 := (f (w 74) 0 (by rw [hA.2.2.2.1]; rintro ⟨r, hr, e1, e2, e3⟩; exact (c r hr).2.2.2.2 e1)).2
  have ek : M'.1 kp = M.1 kp := funext fun k => (f kp k (by rw [gk]; rintro ⟨r, hr, e1, e2, e3⟩; exact (c r hr).1 e1)).1
  have ec : M'.1 kc = M.1 kc := funext fun k => (f kc k (by rw [gc]; rintro ⟨r, hr, e1, e2, e3⟩; exact (c r hr).2.1 e1)).1
  have nm_ : ∀ {a t n : Nat}, G a = (t, n) → t ≠ 1012 → a ≠ m := fun ga h => hn_ne ga gm h
  have gna : ∀ P, P ∈ lq_Ps → G (w (P + 1)) = (24103, 8) := fun P hP => (hA.2.1 P hP).2.1
  rcases y with e | ⟨PL, WA, OA, TO, BI, nm, r⟩
  · obtain ⟨ha, es, -, -, lo⟩ := pz.1 e rfl
    have l1 : ∀ {a t n : Nat} (j : Nat), G a = (t, n) → t ≠ 1012 → (a ≠ ns ∨ j < 8) → M'.2.1 a j = M.2.1 a j := fun j ga ht hj => lo _ j (nm_ ga ht) (fun q => by
      have := Option.some.inj (r1.symm.trans q.1)
      rcases hj with hj | hj
      · exact hj this.symm
      · omega)
    refine ⟨ns, nk, ⟨r9.trans r1, r2, r60.trans r3, r4⟩, fun p q hn => ?_, fun k hk h0 => ?_⟩
    · have hn0 := lq_N.back n1 n2 hn
      obtain ⟨nm, a1, a2⟩ := h1 e rfl p q hn0
      rw [es]
      refine ⟨nm, fun j hj => ?_, fun j hj => ?_⟩
      · rw [l1 j (gna p hn0.pin.1) (by decide) (Or.inr hj)]; exact a1 j hj
      · rw [l1 (0 + j) r2 (by decide) (Or.inr (by omega))]; exact a2 j hj
    · rw [ec] at h0; rw [ek]
      exact (hI k hk h0).cg (fun j hj => l1 j (gna _ (lq_ip_in k)) (by decide) (Or.inr hj)) (fun j _ => l1 _ r4 (by decide) (Or.inl (hn_ne r4 r2 (by decide)))) (Int.le_refl _)
  · obtain ⟨ns', e9, x1, -⟩ := pz.2 _ _ _ _ _ _ _ rfl
    obtain rfl : ns' = ns := Option.some.inj (e9.symm.trans r1)
    obtain ⟨ns2, e92, qo⟩ := o2 _ _ _ _ _ _ _ rfl
    obtain rfl : ns2 = ns' := Option.some.inj (e92.symm.trans r1)
    refine ⟨ns2, nk, ⟨r9.trans r1, r2, r60.trans r3, r4⟩, fun p q hn => ?_, fun k hk h0 => ?_⟩
    · have hn0 := lq_N.back n1 n2 hn
      refine ⟨nm, fun j hj => ?_, fun j hj => ?_⟩
      · rw [x1 _ (nm_ (gna p hn0.pin.1) (by decide)) (hn_ne (gna p hn0.pin.1) r2 (by decide))]; exact h2 _ _ _ _ _ _ _ rfl p q hn0 j hj
      · rw [Nat.zero_add]; exact (qo.2.1 j (by rw [← qo.1.1]; exact hj)).1
    · rw [ec] at h0; rw [ek]
      exact (hI k hk h0).cg (fun j hj => congrFun (x1 _ (nm_ (gna _ (lq_ip_in k)) (by decide)) (hn_ne (gna _ (lq_ip_in k)) r2 (by decide))) j) (fun j _ => congrFun (x1 nk (nm_ r4 (by decide)) (hn_ne r4 r2 (by decide))) _) (Int.le_refl _)
/-- between image of the class and of the reference -/
def nz_i (G : mj_G) (M : mj_M) (s m kp kc : Nat) (w : Nat → Nat) (z1 : Int) : Prop := ∃ ns nk, nz_R G M m ns nk ∧ nz_N M s ns w ∧ (∀ k : Nat, k < 2 → (z1 ≠ (k : Int) → M.1 kc k ≠ 0 → nz_1 M (w (lq_ip k + 1)) nk (8 * k) (M.1 kp (538 * k))) ∧ (z1 = (k : Int) → nz_1 M (w (lq_ip k + 1)) ns 0 (M.1 s 0)))
theorem nz.im1 (h : nz G M s m kp kc w) (hA : lq_A G w) (gx : G x = (1011, 0)) (gm : G m = (1012, 0)) (gs : G s = (51100, 537)) (gk : G kp = (70100, 1076)) (gc : G kc = (48102, 2)) {W : List (Nat × Nat × Nat)} (f : ab_frm W G M M') (c : ∀ q ∈ W, q.1 ≠ 51100 ∧ q.1 ≠ 70100 ∧ q.1 ≠ 1012 ∧ ¬ (q.1 = 1007 ∧ q.2.1 = 0)) (iy : lq_iy G M M' kc w z1) : nz_i G M' s m kp kc w z1 := by
  obtain ⟨ns, nk, ⟨r1, r2, r3, r4⟩, h1, h2⟩ := h
  obtain ⟨p, q, hN, i0, i1⟩ := iy
  have r9 := (f m 9 (by rw [gm]; rintro ⟨r, hr, e1, e2, e3⟩; exact (c r hr).2.2.1 e1)).2
  have r60 := (f m 60 (by rw [gm]; rintro ⟨r, hr, e1, e2, e3⟩; exact (c r hr).2.2.1 e1)).2
  have n1 := (f (w 29) 0 (by rw [hA.2.2.1]; rintro ⟨r, hr, e1, e2, e3⟩; exact (c r hr).2.2.2 ⟨e1, by omega⟩)).2
  have n2 := (f (w 74) 0 (by rw [hA.2.2.2.1]; rintro ⟨r, hr, e1, e2, e3⟩; exact (c r hr).2.2.2 ⟨e1, by omega⟩)).2
  have es : M'.1 s = M.1 s := funext fun k => (f s k (by rw [gs]; rintro ⟨r, hr, e1, e2, e3⟩; exact (c r hr).1 e1)).1
  have ek : M'.1 kp = M.1 kp := funext fun k => (f kp k (by rw [gk]; rintro ⟨r, hr, e1, e2, e3⟩; exact (c r hr).2.1 e1)).1
  have gna : ∀ P, P ∈ lq_Ps → G (w (P + 1)) = (24103, 8) := fun P hP => (hA.2.1 P hP).2.1
  by_cases hz : 0 ≤ z1 ∧ z1 ≤ 1
  · obtain ⟨k0, hk0, e0⟩ : ∃ k : Nat, k < 2 ∧ z1 = (k : Int) := ⟨z1.toNat, by omega, by omega⟩
    obtain ⟨st, M1, e1, ekc, e2, cr1, cr2, -⟩ := i1 k0 hk0 e0
    have l1 : ∀ a j, (G a).1 % 1000 = 103 → a ≠ w (lq_ip k0 + 1) → M'.2.1 a j = M.2.1 a j := fun a j ha hn => by rw [e1]; exact cr2 a j ha hn
    have l2 : ∀ j, j < 8 → M'.2.1 (w (lq_ip k0 + 1)) j = M.2.1 (w (p + 1)) j := fun j hj => by rw [e1]; exact cr1 j hj
    have ec : ∀ k, k ≠ k0 → M'.1 kc k = M.1 kc k := fun k hk => by rw [e1, ← ekc]; exact hn_n (Or.inr hk)
    refine ⟨ns, nk, ⟨r9.trans r1, r2, r60.trans r3, r4⟩, fun p' q' hn => ?_, fun k hk => ⟨fun hz h0 => ?_, fun hz => ?_⟩⟩
    · have hn0 := lq_N.back n1 n2 hn
      rw [es]
      refine (h1 p' q' hn0).cg (fun j _ => l1 _ j (nz_na hA hn0.pin.1) (fun e => ?_)) (fun j _ => l1 _ _ (by rw [r2]; rfl) (hn_ne r2 (gna _ (lq_ip_in k0)) (by decide))) (Int.le_refl _)
      have h4 := lq_P4 hn0.pin.1
      have h5 := lq_P4 (lq_ip_in k0)
      have := hA.1 _ _ (by omega) (by omega) e
      exact hn0.pin.2 k0 (by omega)
    · have hne : k ≠ k0 := fun e => hz (by rw [e]; exact e0)
      rw [ec k hne] at h0
      rw [ek]
      refine (h2 k hk h0).cg (fun j _ => l1 _ j (nz_na hA (lq_ip_in k)) (fun e => ?_)) (fun j _ => l1 _ _ (by rw [r4]; rfl) (hn_ne r4 (gna _ (lq_ip_in k0)) (by decide))) (Int.le_refl _)
      have h4 := lq_P4 (lq_ip_in k)
      have h5 := lq_P4 (lq_ip_in k0)
      have := hA.1 _ _ (by omega) (by omega) e
      exact lq_ip_ne hk hk0 hne (by omega)
    · obtain rfl : k = k0 := by omega
      rw [es]
      exact (h1 p q hN).cg (fun j hj => l2 j hj) (fun j _ => l1 _ _ (by rw [r2]; rfl) (hn_ne r2 (gna _ (lq_ip_in k)) (by decide))) (Int.le_refl _)
  · have e := i0 hz
    subst e
    exact ⟨ns, nk, ⟨r1, r2, r3, r4⟩, h1, fun k hk => ⟨fun _ h0 => h2 k hk h0, fun e => absurd ⟨by omega, by omega⟩ hz⟩⟩
theorem nz_i.im2 {ik : Nat} (h : nz_i G M s m kp kc w z1) (hA : lq_A G w) (gm : G m = (1012, 0)) (gs : G s = (51100, 537)) (gc : G kc = (48102, 2)) {W : List (Nat × Nat × Nat)} (f : ab_frm W G M M') (c : ∀ q ∈ W, q.1 ≠ 51100 ∧ q.1 ≠ 48102 ∧ ¬ (q.1 = 1012 ∧ q.2.1 ≤ 9 ∧ 9 ≤ q.2.2) ∧ ¬ (q.1 = 1012 ∧ q.2.1 ≤ 60 ∧ 60 ≤ q.2.2) ∧ q.1 ≠ 1007) (b8 : M.1 s 0 ≤ 8) (bk : ∀ k : Nat, k < 2 → z1 ≠ (k : Int) → M.1 kc k ≠ 0 → M.1 kp (538 * k) ≤ 8) (mz : ∀ ns nk, M.2.2 m 9 = some ns → M.2.2 m 60 = some nk → rq_mz M M' m kp nk ns z1) (o : (¬ (0 ≤ z1 ∧ z1 ≤ 1) ∧ (∀ q, M'.1 ik q = M.1 ik q) ∧ M'.1 kp = M.1 kp) ∨ (∃ k : Nat, k ≤ 1 ∧ z1 = (k : Int) ∧ M'.1 ik k = 1 ∧ (∀ q, q ≠ k → M'.1 ik q = M.1 ik q) ∧ (∀ p, p < 537 → M'.1 kp (538 * k + p) = M.1 s p) ∧ (∀ q, q < 538 * k ∨ 538 * k + 538 ≤ q → M'.1 kp q = M.1 kp q))) : nz G M' s m kp kc w := by
  obtain ⟨ns, nk, ⟨r1, r2, r3, r4⟩, h1, h2⟩ := h
  have mz := mz ns nk r1 r3
  have r9 := (f m 9 (by rw [gm]; rintro ⟨r, hr, e1, e2, e3⟩; exact (c r hr).2.2.1 ⟨e1, e2, e3⟩)).2
  have r60 := (f m 60 (by rw [gm]; rintro ⟨r, hr, e1, e2, e3⟩; exact (c r hr).2.2.2.1 ⟨e1, e2, e3⟩)).2
  have n1 := (f (w 29) 0 (by rw [hA.2.2.1]; rintro ⟨r, hr, e1, e2, e3⟩; exact (c r hr).2.2.2.2 e1)).2
  have n2 := (f (w 74) 0 (by rw [hA.2.2.2.1]; rintro ⟨r, hr, e1, e2, e3⟩; exact (c r hr).2.2.2.2 e1)).2
  have es : M'.1 s = M.1 s := funext fun k => (f s k (by rw [gs]; rintro ⟨r, hr, e1, e2, e3⟩; exact (c r hr).1 e1)).1
  have ec : M'.1 kc = M.1 kc := funext fun k => (f kc k (by rw [gc]; rintro ⟨r, hr, e1, e2, e3⟩; exact (c r hr).2.1 e1)).1
  have gna : ∀ P, P ∈ lq_Ps → G (w (P + 1)) = (24103, 8) := fun P hP => (hA.2.1 P hP).2.1
  rcases o with ⟨hz, -, ek⟩ | ⟨k0, hk0, e0, -, -, j5, j6⟩
  · obtain ⟨l0, -⟩ := mz.1 hz
    refine ⟨ns, nk, ⟨r9.trans r1, r2, r60.trans r3, r4⟩, fun p q hn => ?_, fun k hk h0 => ?_⟩
    · rw [es]
      exact (h1 p q (lq_N.back n1 n2 hn)).cg (fun j _ => by rw [l0]) (fun j _ => by rw [l0]) (Int.le_refl _)
    · rw [ec] at h0; rw [ek]
      exact ((h2 k hk).1 (by omega) h0).cg (fun j _ => by rw [l0]) (fun j _ => by rw [l0]) (Int.le_refl _)
  · obtain ⟨l1, l2, -⟩ := mz.2 k0 (by omega) e0
    have lp : ∀ P, P ∈ lq_Ps → ∀ j, M'.2.1 (w (P + 1)) j = M.2.1 (w (P + 1)) j := fun P hP j => l2 _ j (fun q => hn_ne (gna P hP) r4 (by decide) q.1)
    have ls : ∀ j, M'.2.1 ns j = M.2.1 ns j := fun j => l2 _ j (fun q => hn_ne r2 r4 (by decide) q.1)
    refine ⟨ns, nk, ⟨r9.trans r1, r2, r60.trans r3, r4⟩, fun p q hn => ?_, fun k hk h0 => ?_⟩
    · have hn0 := lq_N.back n1 n2 hn
      rw [es]
      exact (h1 p q hn0).cg (fun j _ => lp p hn0.pin.1 j) (fun j _ => ls _) (Int.le_refl _)
    · rw [ec] at h0
      by_cases e : k = k0
      · subst e
        have ek : M'.1 kp (538 * k) = M.1 s 0 := j5 0 (by decide)
        rw [ek]
        exact ((h2 k hk).2 e0).cg (fun j _ => lp _ (lq_ip_in k) j) (fun j hj => by rw [Nat.zero_add]; exact l1 j (by omega)) (Int.le_refl _)
      · rw [j6 (538 * k) (by omega)]
        refine ((h2 k hk).1 (by omega) h0).cg (fun j _ => lp _ (lq_ip_in k) j) (fun j hj => l2 _ _ (fun q => ?_)) (Int.le_refl _)
        have := bk k hk (by omega) h0
        omega
/-- between restore of the class and of the reference -/
def nz_r (G : mj_G) (M : mj_M) (s m kp kc : Nat) (w : Nat → Nat) (z1 : Int) : Prop := ∃ ns nk, nz_R G M m ns nk ∧ nz_I M kp kc nk w ∧ ((∀ k : Nat, k < 2 → z1 = (k : Int) → M.1 kc k = 0) → nz_N M s ns w) ∧ (∀ k : Nat, k < 2 → z1 = (k : Int) → M.1 kc k ≠ 0 → ∀ p q, lq_N M w p q → nz_1 M (w (p + 1)) nk (8 * k) (M.1 kp (538 * k)))
theorem nz.re1 (h : nz G M s m kp kc w) (hA : lq_A G w) (gm : G m = (1012, 0)) (gs : G s = (51100, 537)) (gk : G kp = (70100, 1076)) (gc : G kc = (48102, 2)) {W : List (Nat × Nat × Nat)} (f : ab_frm W G M M') (c : ∀ q ∈ W, q.1 ≠ 51100 ∧ q.1 ≠ 70100 ∧ q.1 ≠ 48102 ∧ q.1 ≠ 1012 ∧ ¬ (q.1 = 1007 ∧ q.2.1 = 0)) (ry : lq_ry G M M' kc ud w z1) : nz_r G M' s m kp kc w z1 := by
  obtain ⟨ns, nk, ⟨r1, r2, r3, r4⟩, h1, h2⟩ := h
  obtain ⟨p, q, hN, i0, i1⟩ := ry
  have r9 := (f m 9 (by rw [gm]; rintro ⟨r, hr, e1, e2, e3⟩; exact (c r hr).2.2.2.1 e1)).2
  have r60 := (f m 60 (by rw [gm]; rintro ⟨r, hr, e1, e2, e3⟩; exact (c r hr).2.2.2.1 e1)).2
  have n1 := (f (w 29) 0 (by rw [hA.2.2.1]; rintro ⟨r, hr, e1, e2, e3⟩; exact (c r hr).2.2.2.2 ⟨e1, by omega⟩)).2
  have n2 := (f (w 74) 0 (by rw [hA.2.2.2.1]; rintro ⟨r, hr, e1, e2, e3⟩; exact (c r hr).2.2.2.2 ⟨e1, by omega⟩)).2
  have es : M'.1 s = M.1 s := funext fun k => (f s k (by rw [gs]; rintro ⟨r, hr, e1, e2, e3⟩; exact (c r hr).1 e1)).1
  have ek : M'.1 kp = M.1 kp := funext fun k => (f kp k (by rw [gk]; rintro ⟨r, hr, e1, e2, e3⟩; exact (c r hr).2.1 e1)).1
  have ec : M'.1 kc = M.1 kc := funext fun k => (f kc k (by rw [gc]; rintro ⟨r, hr, e1, e2, e3⟩; exact (c r hr).2.2.1 e1)).1
  have gna : ∀ P, P ∈ lq_Ps → G (w (P + 1)) = (24103, 8) := fun P hP => (hA.2.1 P hP).2.1
  by_cases hz : ∀ k : Nat, k < 2 → z1 = (k : Int) → M.1 kc k = 0
  · have e := i0 hz
    subst e
    exact ⟨ns, nk, ⟨r1, r2, r3, r4⟩, h2, fun _ => h1, fun k hk e h0 => absurd (hz k hk e) h0⟩
  · obtain ⟨k0, hk0, e0, hc0⟩ : ∃ k : Nat, k < 2 ∧ z1 = (k : Int) ∧ M.1 kc k ≠ 0 := Classical.byContradiction (fun n => hz (fun k hk e => Classical.byContradiction (fun h => n ⟨k, hk, e, h⟩)))
    obtain ⟨st, M1, e1, e2, cr1, cr2, -⟩ := i1 k0 hk0 e0 hc0
    have l1 : ∀ a j, (G a).1 % 1000 = 103 → a ≠ w (p + 1) → M'.2.1 a j = M.2.1 a j := fun a j ha hn => by rw [e1]; exact cr2 a j ha hn
    have l2 : ∀ j, j < 8 → M'.2.1 (w (p + 1)) j = M.2.1 (w (lq_ip k0 + 1)) j := fun j hj => by rw [e1]; exact cr1 j hj
    have gp := gna p hN.pin.1
    have hp4 := lq_P4 hN.pin.1
    refine ⟨ns, nk, ⟨r9.trans r1, r2, r60.trans r3, r4⟩, fun k hk h0 => ?_, fun h => ?_, fun k hk e _ p' q' hn => ?_⟩
    · rw [ec] at h0; rw [ek]
      refine (h2 k hk h0).cg (fun j _ => l1 _ j (nz_na hA (lq_ip_in k)) (fun e => ?_)) (fun j _ => l1 _ _ (by rw [r4]; rfl) (hn_ne r4 gp (by decide))) (Int.le_refl _)
      have h4 := lq_P4 (lq_ip_in k)
      have := hA.1 _ _ (by omega) (by omega) e
      exact hN.pin.2 k (by omega)
    · have := h k0 hk0 e0
      rw [ec] at this
      exact absurd this hc0
    · obtain rfl : k = k0 := by omega
      have hn0 := lq_N.back n1 n2 hn
      have a := Option.some.inj (hn0.1.symm.trans hN.1)
      have hp' := lq_P4 hn0.pin.1
      have a := hA.1 _ _ (by omega) (by omega) a
      subst a
      rw [ek]
      exact (h2 k hk hc0).cg (fun j hj => l2 j hj) (fun j _ => l1 _ _ (by rw [r4]; rfl) (hn_ne r4 gp (by decide))) (Int.le_refl _)
theorem nz_r.re2 {ik : Nat} (h : nz_r G M s m kp kc w z1) (hA : lq_A G w) (gm : G m = (1012, 0)) (gk : G kp = (70100, 1076)) (gc : G kc = (48102, 2)) {W : List (Nat × Nat × Nat)} (f : ab_frm W G M M') (c : ∀ q ∈ W, q.1 ≠ 70100 ∧ q.1 ≠ 48102 ∧ ¬ (q.1 = 1012 ∧ q.2.1 ≤ 9 ∧ 9 ≤ q.2.2) ∧ ¬ (q.1 = 1012 ∧ q.2.1 ≤ 60 ∧ 60 ≤ q.2.2) ∧ q.1 ≠ 1007) (mk : ∀ k, k < 2 → M.1 kc k = M.1 ik k) (bk : ∀ k : Nat, k < 2 → M.1 kc k ≠ 0 → M.1 kp (538 * k) ≤ 8) (rz : ∀ ns nk, M.2.2 m 9 = some ns → M.2.2 m 60 = some nk → rq_rz M M' m kp nk ns ik z1) (o : ((¬ (0 ≤ z1 ∧ z1 ≤ 1) ∨ M.1 ik z1.toNat = 0) ∧ M'.1 s = M.1 s) ∨ (∃ k : Nat, k ≤ 1 ∧ z1 = (k : Int) ∧ M.1 ik k ≠ 0 ∧ (∀ p, p < 537 → M'.1 s p = M.1 kp (538 * k + p)))) : nz G M' s m kp kc w := by
  obtain ⟨ns, nk, ⟨r1, r2, r3, r4⟩, hI, h1, h2⟩ := h
  have rz := rz ns nk r1 r3
  have r9 := (f m 9 (by rw [gm]; rintro ⟨r, hr, e1, e2, e3⟩; exact (c r hr).2.2.1 ⟨e1, e2, e3⟩)).2
  have r60 := (f m 60 (by rw [gm]; rintro ⟨r, hr, e1, e2, e3⟩; exact (c r hr).2.2.2.1 ⟨e1, e2, e3⟩)).2
  have n1 := (f (w 29) 0 (by rw [hA.2.2.1]; rintro ⟨r, hr, e1, e2, e3⟩; exact (c r hr).2.2.2.2 e1)).2
  have n2 := (f (w 74) 0 (by rw [hA.2.2.2.1]; rintro ⟨r, hr, e1, e2, e3⟩; exact (c r hr).2.2.2.2 e1)).2
  have ek : M'.1 kp = M.1 kp := funext fun k => (f kp k (by rw [gk]; rintro ⟨r, hr, e1, e2, e3⟩; exact (c r hr).1 e1)).1
  have ec : M'.1 kc = M.1 kc := funext fun k => (f kc k (by rw [gc]; rintro ⟨r, hr, e1, e2, e3⟩; exact (c r hr).2.1 e1)).1
  have gna : ∀ P, P ∈ lq_Ps → G (w (P + 1)) = (24103, 8) := fun P hP => (hA.2.1 P hP).2.1
  rcases o with ⟨hz, es⟩ | ⟨k0, hk0, e0, hc0, j4⟩
  · obtain ⟨l0, -⟩ := rz.1 hz
    have hz' : ∀ k : Nat, k < 2 → z1 = (k : Int) → M.1 kc k = 0 := fun k hk e => by
      rcases hz with hz | hz
      · exact absurd ⟨by omega, by omega⟩ hz
      · rw [e] at hz; rw [mk k hk]; exact hz
    refine ⟨ns, nk, ⟨r9.trans r1, r2, r60.trans r3, r4⟩, fun p q hn => ?_, fun k hk h0 => ?_⟩
    · rw [es]
      exact (h1 hz' p q (lq_N.back n1 n2 hn)).cg (fun j _ => by rw [l0]) (fun j _ => by rw [l0]) (Int.le_refl _)
    · rw [ec] at h0; rw [ek]
      exact (hI k hk h0).cg (fun j _ => by rw [l0]) (fun j _ => by rw [l0]) (Int.le_refl _)
  · have hk2 : k0 < 2 := by omega
    obtain ⟨l1, l2, -⟩ := rz.2 k0 hk2 e0 hc0
    have hcc : M.1 kc k0 ≠ 0 := by rw [mk k0 hk2]; exact hc0
    have lp : ∀ P, P ∈ lq_Ps → ∀ j, M'.2.1 (w (P + 1)) j = M.2.1 (w (P + 1)) j := fun P hP j => l2 _ j (fun q => hn_ne (gna P hP) r2 (by decide) q.1)
    have lk : ∀ j, M'.2.1 nk j = M.2.1 nk j := fun j => l2 _ j (fun q => hn_ne r4 r2 (by decide) q.1)
    have b := bk k0 hk2 hcc
    refine ⟨ns, nk, ⟨r9.trans r1, r2, r60.trans r3, r4⟩, fun p q hn => ?_, fun k hk h0 => ?_⟩
    · have hn0 := lq_N.back n1 n2 hn
      have es : M'.1 s 0 = M.1 kp (538 * k0) := j4 0 (by decide)
      rw [es]
      exact (h2 k0 hk2 e0 hcc p q hn0).cg (fun j _ => lp p hn0.pin.1 j) (fun j hj => by rw [Nat.zero_add]; exact l1 j (by omega)) (Int.le_refl _)
    · rw [ec] at h0; rw [ek]
      exact (hI k hk h0).cg (fun j _ => lp _ (lq_ip_in k) j) (fun j _ => lk _) (Int.le_refl _)
theorem nz.wo {W : List (Nat × Nat × Nat)} (h : nz G M s m kp kc w) (hA : lq_A G w) (gm : G m = (1012, 0)) (gs : G s = (51100, 537)) (gk : G kp = (70100, 1076)) (gc : G kc = (48102, 2)) (f : ab_frm W G M M') (c : nz_c W) (wo : ∃ p q, lq_N M w p q ∧ lq_N M' w p q ∧ ∀ a k, (G a).1 % 1000 = 103 → a ≠ w (q + 1) → M'.2.1 a k = M.2.1 a k) : nz G M' s m kp kc w :=
  h.cg hA (f m 9 (by rw [gm]; rintro ⟨r, hr, e1, e2, e3⟩; exact (c r hr).2.2.2.1 ⟨e1, e2, e3⟩)).2 (f m 60 (by rw [gm]; rintro ⟨r, hr, e1, e2, e3⟩; exact (c r hr).2.2.2.2.1 ⟨e1, e2, e3⟩)).2 (f _ 0 (by rw [hA.2.2.1]; rintro ⟨r, hr, e1, e2, e3⟩; exact (c r hr).2.2.2.2.2 ⟨e1, by omega⟩)).2 (f _ 0 (by rw [hA.2.2.2.1]; rintro ⟨r, hr, e1, e2, e3⟩; exact (c r hr).2.2.2.2.2 ⟨e1, by omega⟩)).2 (f s 0 (by rw [gs]; rintro ⟨r, hr, e1, e2, e3⟩; exact (c r hr).1 ⟨e1, by omega⟩)).1 (funext fun k => (f kp k (by rw [gk]; rintro ⟨r, hr, e1, e2, e3⟩; exact (c r hr).2.1 e1)).1) (funext fun k => (f kc k (by rw [gc]; rintro ⟨r, hr, e1, e2, e3⟩; exact (c r hr).2.2.1 e1)).1) (fun a k ha hn => by
    obtain ⟨p, q, hN, -, l⟩ := wo
    exact l a k ha (hn p q hN))
end NZ
end
section
/-! ===== contracts of both sides, as the invariant sees them ===== -/
theorem lq_ct_ge (f : Nat → Int) : ∀ n, 0 ≤ lq_ct f n
  | 0 => Int.le_refl 0
  | n + 1 => by
    have := lq_ct_ge f n
    unfold lq_ct
    split <;> omega
abbrev rv_Od : Type := (Int × Nat) ⊕ ((Nat → Int) × Nat)
def rv_zd (f : Nat → Int) (n : Nat) (nm : Nat → List Int) (c0 : Int) (y : rv_Od) : Prop := ∀ P : rv_Od → Prop, P y → sp_deals (rv_T (fun k => rv_u8 (f k)) n 400) nm c0 (fun f a => P (.inl (f, a))) (fun R r => P (.inr (R, r))) (n + 1) (fun _ => 0) 0 0
def rv_vd (y : rv_Od) : Int := Sum.elim (fun e => rv_vf e.2) (fun e => ((e.2 : Nat) : Int)) y
theorem rv_vd_l (e : Int × Nat) : rv_vd (.inl e) = rv_vf e.2 := by unfold rv_vd; rw [Sum.elim_inl]
theorem rv_vd_r (e : (Nat → Int) × Nat) : rv_vd (.inr e) = ((e.2 : Nat) : Int) := by unfold rv_vd; rw [Sum.elim_inr]
section CT
variable {G : mj_G} {M M' : mj_M} {w : Nat → Nat} {x m s kp kc tp bc bt n : Nat}
/-- all that the class's contracts tells, raw -/
def lq_cy (G : mj_G) (M M' : mj_M) (x tp s : Nat) (w : Nat → Nat) (y : rv_Od) : Prop := ∃ p q dn dl fa sa ca oa, lq_N M w p q ∧ G oa = (30100, 8) ∧ rc_X G M x tp (w p) (w 74) (w 29) dn dl fa sa ca ∧ rc_fr x tp dl fa sa ca (fun t => w (p + 3 + t)) (fun t => w (p + 12 + t)) (w p) (w (p + 20)) oa M M' ∧ rc_fq tp (w 29) (w 74) M M' ∧ (∀ e, y = .inl e → rc_F (w 29) (w 74) dn dl M') ∧ (∀ R r, y = .inr (R, r) → rv_db (M.1 s 0) R ∧ rc_O (w 29) (w 74) dn dl fa sa ca R r M')
def lq_cn (M : mj_M) (m s : Nat) (nm : Nat → List Int) : Prop := ∀ ns, M.2.2 m 9 = some ns → ∀ k : Nat, (k : Int) < M.1 s 0 → M.2.1 ns k = rv_8 (nm k) ∧ rv_wo (nm k)
set_option maxRecDepth 100000 in
theorem lq_ct1 (inv : ab_Inv G M) (gx : G x = (1011, 0)) (gtp : G tp = (1008, 0)) (x0 : M.2.2 x 0 = some tp) (h6 : lp_6 G M tp m bc bt) (hJ : lq_J G M x s kp kc w) (hr : rv_r6 (M.1 s) 0) (hnz : nz G M s m kp kc w) (hn : n ≤ 940) (hs : M.1 tp 1 = (n : Int)) : mj_R mj_tab 40 117 [.inr (.inr (some x))] G M (fun r G' M' => ∃ nm y, r = some (.inl (rv_vd y)) ∧ G' = G ∧ rv_zd (M.1 bc) n nm (M.1 s 0) y ∧ lq_cn M m s nm ∧ lq_cy G M M' x tp s w y) := by
  obtain ⟨gbc, gbt, t0, m1, wl, l5⟩ := h6
  obtain ⟨hA, hB, p, q, hN, h1, h2⟩ := hJ
  have hp := hN.pin.1
  have g29 := hA.2.2.1
  have g74 := hA.2.2.2.1
  obtain ⟨gpl, gna, gta, gba, gwa, gtr, gbr, itr, ibr, p0, p1, p2, p3, rt, rb⟩ := lq_K hA hB hp
  obtain ⟨dl, w1, gdl⟩ := hn_rf (k := 1) (q := (1002, 0)) inv g74 rfl (by decide) (by decide) (by decide) (fun e => absurd e (by decide))
  obtain ⟨dn, w2, gdn⟩ := hn_rf (k := 1) (q := (1002, 0)) inv g29 rfl (by decide) (by decide) (by decide) (fun e => absurd e (by decide))
  obtain ⟨fa, d0, gfa⟩ := hn_rf (k := 0) (q := (16100, 12)) inv gdl rfl (by decide) (by decide) (by decide) (fun e => absurd e (by decide))
  obtain ⟨sa, d1, gsa⟩ := hn_rf (k := 1) (q := (17100, 12)) inv gdl rfl (by decide) (by decide) (by decide) (fun e => absurd e (by decide))
  obtain ⟨ca, d2, gca⟩ := hn_rf (k := 2) (q := (18100, 12)) inv gdl rfl (by decide) (by decide) (by decide) (fun e => absurd e (by decide))
  obtain ⟨oa, p10, goa⟩ := hn_rf (k := 10) (q := (30100, 8)) inv gpl rfl (by decide) (by decide) (by decide) (fun e => absurd e (by decide))
  obtain ⟨ns, nk, ⟨r1, r2, -, -⟩, hNN, -⟩ := hnz
  obtain ⟨nm, a1, a2⟩ := hNN p q hN
  have e0 : M.1 (w p) 4 = M.1 s 0 := h1.1.1.symm
  have hAT : rv_AT G M (fun k => rv_u8 (M.1 bc k)) n 400 tp bc (w p) (w (p + 1)) (w (p + 2)) (w (p + 11)) (w (p + 20)) oa (fun t => w (p + 3 + t)) (fun t => w (p + 12 + t)) (rv_T (fun k => rv_u8 (M.1 bc k)) n 400) :=
    ⟨⟨gtp, gbc, gpl, gna, gta, gba, gwa, goa, gtr, gbr, itr, ibr, t0, p0, p1, p2, p3, p10, rt, rb, fun _ => rfl, wl, hn, by decide, inv.2.2.2.1⟩, rfl⟩
  have hX : rc_X G M x tp (w p) (w 74) (w 29) dn dl fa sa ca := ⟨⟨gx, g74, g29, ⟨gdl, gfa, gsa, gca, d0, d1, d2⟩, fun e => absurd (hA.1 _ _ (by decide) (by decide) e) (by decide)⟩, x0, hB.2.1, hB.2.2.1, w1, w2, hN.1⟩
  have hb : rv_pb (M.1 (w p)) := ⟨by rw [e0]; exact hr.1.1.1, by rw [e0]; exact hr.1.1.2, by rw [h1.2.2]; exact lq_ct_ge _ _, by rw [h1.2.2]; exact hr.2.2⟩
  obtain ⟨y, hy⟩ := dg_deals (T := rv_T (fun k => rv_u8 (M.1 bc k)) n 400) (nm := nm) (c0 := M.1 s 0) (n + 1) (fun _ => 0) 0 0
  have hcn : lq_cn M m s nm := fun ns' e k hk => by
    obtain rfl : ns' = ns := Option.some.inj (e.symm.trans r1)
    have hk8 : k < 8 := by have := hr.1.1.2; omega
    exact ⟨by have := a2 k hk; rwa [Nat.zero_add] at this, (a1 k hk8).2⟩
  refine r_X11_contracts (d := 31) hAT hX hs a1 hb ?_
  rw [e0]
  have key0 : (∀ f a, y = .inl (f, a) → ∀ M', rc_F (w 29) (w 74) dn dl M' → rc_fr x tp dl fa sa ca (fun t => w (p + 3 + t)) (fun t => w (p + 12 + t)) (w p) (w (p + 20)) oa M M' → rc_fq tp (w 29) (w 74) M M' → ∃ nm y, (some (.inl (rv_vf a)) : Option mj_V) = some (.inl (rv_vd y)) ∧ G = G ∧ rv_zd (M.1 bc) n nm (M.1 s 0) y ∧ lq_cn M m s nm ∧ lq_cy G M M' x tp s w y) ∧ (∀ R r, y = .inr (R, r) → rv_db (M.1 s 0) R → ∀ M', rc_O (w 29) (w 74) dn dl fa sa ca R r M' → rc_fr x tp dl fa sa ca (fun t => w (p + 3 + t)) (fun t => w (p + 12 + t)) (w p) (w (p + 20)) oa M M' → rc_fq tp (w 29) (w 74) M M' → ∃ nm y, (some (.inl ((r : Nat) : Int)) : Option mj_V) = some (.inl (rv_vd y)) ∧ G = G ∧ rv_zd (M.1 bc) n nm (M.1 s 0) y ∧ lq_cn M m s nm ∧ lq_cy G M M' x tp s w y) := by
    refine ⟨fun f a ey M' hF fr fq => ?_, fun R r ey hdb M' hO fr fq => ?_⟩
    · refine ⟨nm, y, by rw [ey, rv_vd_l], rfl, hy, hcn, p, q, dn, dl, fa, sa, ca, oa, hN, goa, hX, fr, fq, fun _ _ => hF, fun R r e => ?_⟩
      rw [ey] at e; cases e
    · refine ⟨nm, y, by rw [ey, rv_vd_r], rfl, hy, hcn, p, q, dn, dl, fa, sa, ca, oa, hN, goa, hX, fr, fq, fun e h => ?_, fun R2 r2 e => ?_⟩
      · rw [ey] at h; cases h
      · rw [ey] at e; cases e; exact ⟨hdb, hO⟩
  exact sp_deals.mono (fun f a h => h.1 f a rfl) (fun R r h => h.2 R r rfl) _ _ _ _ (hy (fun o => (∀ f a, o = .inl (f, a) → ∀ M', rc_F (w 29) (w 74) dn dl M' → rc_fr x tp dl fa sa ca (fun t => w (p + 3 + t)) (fun t => w (p + 12 + t)) (w p) (w (p + 20)) oa M M' → rc_fq tp (w 29) (w 74) M M' → ∃ nm y, (some (.inl (rv_vf a)) : Option mj_V) = some (.inl (rv_vd y)) ∧ G = G ∧ rv_zd (M.1 bc) n nm (M.1 s 0) y ∧ lq_cn M m s nm ∧ lq_cy G M M' x tp s w y) ∧ (∀ R r, o = .inr (R, r) → rv_db (M.1 s 0) R → ∀ M', rc_O (w 29) (w 74) dn dl fa sa ca R r M' → rc_fr x tp dl fa sa ca (fun t => w (p + 3 + t)) (fun t => w (p + 12 + t)) (w p) (w (p + 20)) oa M M' → rc_fq tp (w 29) (w 74) M M' → ∃ nm y, (some (.inl ((r : Nat) : Int)) : Option mj_V) = some (.inl (rv_vd y)) ∧ G = G ∧ rv_zd (M.1 bc) n nm (M.1 s 0) y ∧ lq_cn M m s nm ∧ lq_cy G M M' x tp s w y)) key0)
theorem lq_ct2 {f : Nat → Int} {nm : Nat → List Int} {y : rv_Od} (hV : lw_V G M x m tp s kp) (gbt : G bt = (50101, 940)) (m1 : M.2.2 m 1 = some bt) (hf : M.1 bt = f) (b0 : 0 ≤ M.1 s 0 ∧ M.1 s 0 ≤ 8) (hcn : lq_cn M m s nm) (hn : n ≤ 940) (hs : M.1 m 2 = (n : Int)) (hz : rv_zd f n nm (M.1 s 0) y) : mj_R mj_tab 40 177 [.inr (.inr (some m))] G M (fun r _ M' => r = some (.inl (rv_vd y)) ∧ (∀ e, y = .inl e → M'.1 s = M.1 s) ∧ (∀ R r, y = .inr (R, r) → rq_O s R r M M')) := by
  obtain ⟨inv, ⟨gx, gm, gtp, gs, -⟩, ⟨x0, m6, -⟩, -⟩ := hV
  obtain ⟨rd, h8, grd⟩ := hn_rf (k := 8) (q := (53100, 135)) inv gm rfl (by decide) (by decide) (by decide) (fun e => absurd e (by decide))
  obtain ⟨ns, h9, gns⟩ := hn_rf (k := 9) (q := (54103, 16)) inv gm rfl (by decide) (by decide) (by decide) (fun e => absurd e (by decide))
  obtain ⟨rs, h10, grs⟩ := hn_rf (k := 10) (q := (55103, 24)) inv gm rfl (by decide) (by decide) (by decide) (fun e => absurd e (by decide))
  refine r_X12_contracts2 (d := 34) (B := fun k => rv_u8 (f k)) gm gbt gns grs m1 h9 h10 (fun k => by rw [hf]) (fun k hk => (inv.2.2.2.2 rs k (by rw [grs]) hk).trans (ab_rsv8 k hk)) hn rfl gs grd m6 h8 hs b0.1 b0.2 rfl (hcn ns h9) ?_
  have key0 : (∀ f a, y = .inl (f, a) → ∀ M', M'.1 s = M.1 s → (some (.inl (rv_vf a)) : Option mj_V) = some (.inl (rv_vd y)) ∧ (∀ e, y = .inl e → M'.1 s = M.1 s) ∧ (∀ R r, y = .inr (R, r) → rq_O s R r M M')) ∧ (∀ R r, y = .inr (R, r) → rv_db (M.1 s 0) R → ∀ M', rq_O s R r M M' → (some (.inl ((r : Nat) : Int)) : Option mj_V) = some (.inl (rv_vd y)) ∧ (∀ e, y = .inl e → M'.1 s = M.1 s) ∧ (∀ R r, y = .inr (R, r) → rq_O s R r M M')) := by
    refine ⟨fun f a ey M' es => ?_, fun R r ey hdb M' hO => ?_⟩
    · refine ⟨by rw [ey, rv_vd_l], fun _ _ => es, fun R r e => ?_⟩
      rw [ey] at e; cases e
    · refine ⟨by rw [ey, rv_vd_r], fun e h => ?_, fun R2 r2 e => ?_⟩
      · rw [ey] at h; cases h
      · rw [ey] at e; cases e; exact hO
  exact sp_deals.mono (fun f a h => h.1 f a rfl) (fun R r h => h.2 R r rfl) _ _ _ _ (hz (fun o => (∀ f a, o = .inl (f, a) → ∀ M', M'.1 s = M.1 s → (some (.inl (rv_vf a)) : Option mj_V) = some (.inl (rv_vd y)) ∧ (∀ e, y = .inl e → M'.1 s = M.1 s) ∧ (∀ R r, y = .inr (R, r) → rq_O s R r M M')) ∧ (∀ R r, o = .inr (R, r) → rv_db (M.1 s 0) R → ∀ M', rq_O s R r M M' → (some (.inl ((r : Nat) : Int)) : Option mj_V) = some (.inl (rv_vd y)) ∧ (∀ e, y = .inl e → M'.1 s = M.1 s) ∧ (∀ R r, y = .inr (R, r) → rq_O s R r M M'))) key0)
end CT
end
section
/-! ===== the invariant with names; calls told twice, with longs ===== -/
theorem lv_C.an {y : Nat} {av : List mj_V} {G : mj_G} {M : mj_M} {P P' : Int → mj_M → Prop} (hk : st_in an_St y = true) (h1 : lv_C y av G M P) (h2 : lv_C y av G M P') : lv_C y av G M (fun z M' => P z M' ∧ P' z M') := fun Q hQ =>
  sn_and hk (h1 (fun r G' M' => ∃ z, r = some (.inl z) ∧ G' = G ∧ P z M') (fun z M' p => ⟨z, rfl, rfl, p⟩)) (h2 (fun r G' M' => ∃ z, r = some (.inl z) ∧ G' = G ∧ P' z M') (fun z M' p => ⟨z, rfl, rfl, p⟩)) (fun r G' M' g1 g2 => by
    obtain ⟨z, e1, rfl, p1⟩ := g1
    obtain ⟨z2, e2, -, p2⟩ := g2
    obtain rfl : z2 = z := Sum.inl.inj (Option.some.inj (e2.symm.trans e1))
    rw [e1]; exact hQ _ M' ⟨p1, p2⟩)
theorem lv_C.im {y : Nat} {av : List mj_V} {G : mj_G} {M : mj_M} {P P' : Int → mj_M → Prop} (h1 : lv_C y av G M P) (h : ∀ z M', P z M' → P' z M') : lv_C y av G M P' := fun Q hQ => h1 Q (fun z M' p => hQ z M' (h z M' p))
theorem lv_C.vl {y : Nat} {av : List mj_V} {G : mj_G} {M : mj_M} {P : Int → mj_M → Prop} {v : Int} (hk : st_in an_St y = true) (h1 : lv_C y av G M P) (h2 : mj_R mj_tab 40 y av G M (fun r _ _ => r = some (.inl v))) : lv_C y av G M (fun z M' => P z M' ∧ z = v) := fun Q hQ =>
  sn_and hk (h1 (fun r G' M' => ∃ z, r = some (.inl z) ∧ G' = G ∧ P z M') (fun z M' p => ⟨z, rfl, rfl, p⟩)) h2 (fun r G' M' g1 g2 => by
    obtain ⟨z, e1, rfl, p1⟩ := g1
    rw [e1]; exact hQ _ M' ⟨p1, Sum.inl.inj (Option.some.inj (e1.symm.trans g2))⟩)
theorem lv_C.lnn {y : Nat} {av : List mj_V} {G : mj_G} {M : mj_M} {P P' : Int → mj_M → Prop} (hk : st_in ln_St y = true) (h1 : lv_C y av G M (fun z M' => P z M' ∧ (ln G M M' → P' z M'))) : lv_C y av G M (fun z M' => P z M' ∧ P' z M') := fun Q hQ =>
  sn_ln hk (h1 (fun r G' M' => ∃ z, r = some (.inl z) ∧ G' = G ∧ P z M' ∧ (ln G M M' → P' z M')) (fun z M' p => ⟨z, rfl, rfl, p⟩)) (fun r M' q l => by
    obtain ⟨z, rfl, -, a, b⟩ := q
    exact hQ z M' ⟨a, b l⟩)
theorem lv_C.l1 {y : Nat} {av : List mj_V} {G : mj_G} {M : mj_M} {P : Int → mj_M → Prop} (hk : st_in ln_St y = true) (h1 : lv_C y av G M (fun z M' => ln G M M' → P z M')) : lv_C y av G M P := fun Q hQ =>
  sn_ln hk (h1 (fun r G' M' => ∃ z, r = some (.inl z) ∧ G' = G ∧ (ln G M M' → P z M')) (fun z M' p => ⟨z, rfl, rfl, p⟩)) (fun r M' q l => by
    obtain ⟨z, rfl, -, b⟩ := q
    exact hQ z M' (b l))
def lp_X (G : mj_G) (M : mj_M) (x m tp s kp bc bt kc kr : Nat) (w : Nat → Nat) : Prop := lp_I G M x m tp s kp bc bt kc kr w ∧ nz G M s m kp kc w
theorem lp_I.gk {G : mj_G} {M : mj_M} {x m tp s kp bc bt kc kr : Nat} {w : Nat → Nat} (h : lp_I G M x m tp s kp bc bt kc kr w) : G kp = (70100, 1076) := h.1.1.1.2.1.2.2.2.2
theorem lp_I.gc {G : mj_G} {M : mj_M} {x m tp s kp bc bt kc kr : Nat} {w : Nat → Nat} (h : lp_I G M x m tp s kp bc bt kc kr w) : G kc = (48102, 2) := h.2.1.1
theorem lp_I.gr {G : mj_G} {M : mj_M} {x m tp s kp bc bt kc kr : Nat} {w : Nat → Nat} (h : lp_I G M x m tp s kp bc bt kc kr w) : G kr = (72102, 2) := h.2.1.2.1
theorem lp_I.gt {G : mj_G} {M : mj_M} {x m tp s kp bc bt kc kr : Nat} {w : Nat → Nat} (h : lp_I G M x m tp s kp bc bt kc kr w) : G tp = (1008, 0) := h.1.1.1.2.1.2.2.1
/-- names, by a call's frame and longs -/
theorem lp_I.nz {G : mj_G} {M M0 M' : mj_M} {x m tp s kp bc bt kc kr : Nat} {w : Nat → Nat} {W : List (Nat × Nat × Nat)} (hI : lp_I G M0 x m tp s kp bc bt kc kr w) (h : nz G M s m kp kc w) (f : ab_frm W G M M') (c : nz_c W) (l : ln G M M') : nz G M' s m kp kc w := h.go hI.J.1 hI.gm hI.gs hI.gk hI.gc f l c
theorem lp_X.mv {G : mj_G} {M M' : mj_M} {x m tp s kp bc bt kc kr : Nat} {w : Nat → Nat} (h : lp_X G M x m tp s kp bc bt kc kr w) (e1 : M'.1 = M.1) (e2 : M'.2.2 = M.2.2) (e3 : ∀ y k, (G y).1 ≠ 90103 → M'.2.1 y k = M.2.1 y k) : lp_X G M' x m tp s kp bc bt kc kr w := ⟨h.1.mv e1 e2 (fun y k hy => e3 y k (by rw [hy]; decide)), h.2.mv h.1.J.1 e1 e2 (fun a k _ ha => e3 a k ha)⟩
theorem sz_headN {w : sx_w} {h : sx_H} {G : mj_G} {M : mj_M} (hR : sx_RH w h G M) (k2 : sz_hk h = true) (hA : lq_A (sz_G w h G) w.2.2.2) : nz (sz_G w h G) (sz_M w h G M) (w.2.2.2 338) (w.2.2.2 336) (w.2.2.2 357) (w.2.2.2 120) w.2.2.2 := by
  have n1 := (sz_hk_s k2).1
  obtain ⟨ya, yb, -, -, -⟩ := sz_hy_s k2
  have tg : ∀ i t n, (i, t, n) ∈ sz_lt → sz_G w h G (w.2.2.2 i) = (t, n) := fun i t n he => sz_tg_s (yb (i, t, n) he) hR (by have := sz_lt_lt _ he; omega)
  have rq : ∀ i k j, (i, k, j) ∈ sz_lr → (sz_M w h G M).2.2 (w.2.2.2 i) k = some (w.2.2.2 j) := fun i k j he => sz_rq_s (ya (i, k, j) he) hR (by have := (sz_lr_lt _ he).1; omega) (sz_lr_lt _ he).2
  have s0 : (sz_M w h G M).1 (w.2.2.2 338) 0 = 0 := sz_q_s hR k2 (by decide +kernel)
  have c0 : (sz_M w h G M).1 (w.2.2.2 120) 0 = 0 := sz_q_s hR k2 (by decide +kernel)
  have c1 : (sz_M w h G M).1 (w.2.2.2 120) 1 = 0 := sz_q_s hR k2 (by decide +kernel)
  have g0 := rq 29 0 30 (by decide +kernel)
  refine ⟨w.2.2.2 341, w.2.2.2 358, ⟨rq _ _ _ (by decide +kernel), tg _ _ _ (by decide +kernel), rq _ _ _ (by decide +kernel), tg _ _ _ (by decide +kernel)⟩, fun p q hn => ?_, fun k hk h0 => ?_⟩
  · have e := Option.some.inj (hn.1.symm.trans g0)
    have hp4 := lq_P4 hn.pin.1
    have e := hA.1 _ _ (by omega) (by omega) e
    subst e
    refine ⟨fun _ => [], fun j hj => ⟨?_, by show 0 ≤ 8; decide, fun y hy => by cases hy⟩, fun j hj => ?_⟩
    · obtain ⟨r1, r2, r3⟩ := hR.2.2.1 31 (by omega)
      show M.2.1 (w.2.2.2 31) j = _
      rw [(r3 j (by omega)).2.1, sz_d3_s k2 j hj]; rfl
    · rw [s0] at hj; omega
  · exfalso
    have : k = 0 ∨ k = 1 := by omega
    rcases this with rfl | rfl
    · exact h0 c0
    · exact h0 c1
end
section
/-! ===== the cheapest letting as a pure thing: the first of the cheapest ways ===== -/
abbrev cs_R : Type := Option (Int × (Nat → Int))
def cs_add (k : Int) (m : Nat) (c : Int) (a : cs_R) : cs_R := a.map (fun x => (k + x.1, fun j => if j = m then c else x.2 j))
/-- of two, the second only if it is less -/
def cs_min (a b : cs_R) : cs_R := match a, b with
  | none, b => b
  | some x, none => some x
  | some x, some y => if y.1 < x.1 then some y else some x
def cs_fold (f : Nat → cs_R) : Nat → cs_R
  | 0 => none
  | n + 1 => cs_min (cs_fold f n) (f n)
/-- the least of all is c at most -/
def cs_le (a : cs_R) (c : Int) : Prop := ∃ x, a = some x ∧ x.1 ≤ c
theorem cs_min_le {a b : cs_R} {c : Int} : cs_le (cs_min a b) c ↔ cs_le a c ∨ cs_le b c := by
  unfold cs_le cs_min
  cases a with
  | none => simp
  | some x =>
    cases b with
    | none => simp
    | some y =>
      show (∃ z, (if y.1 < x.1 then some y else some x) = some z ∧ z.1 ≤ c) ↔ _
      split
      · rename_i h
        constructor
        · rintro ⟨z, e, hz⟩; cases e; exact Or.inr ⟨y, rfl, hz⟩
        · rintro (⟨z, e, hz⟩ | ⟨z, e, hz⟩)
          · cases e; exact ⟨y, rfl, by omega⟩
          · cases e; exact ⟨y, rfl, hz⟩
      · rename_i h
        constructor
        · rintro ⟨z, e, hz⟩; cases e; exact Or.inl ⟨x, rfl, hz⟩
        · rintro (⟨z, e, hz⟩ | ⟨z, e, hz⟩)
          · cases e; exact ⟨x, rfl, hz⟩
          · cases e; exact ⟨x, rfl, by omega⟩
theorem cs_fold_le {f : Nat → cs_R} {c : Int} : ∀ n, cs_le (cs_fold f n) c ↔ ∃ i, i < n ∧ cs_le (f i) c
  | 0 => by
    constructor
    · rintro ⟨x, e, -⟩; cases e
    · rintro ⟨i, h, -⟩; omega
  | n + 1 => by
    show cs_le (cs_min (cs_fold f n) (f n)) c ↔ _
    rw [cs_min_le, cs_fold_le n]
    constructor
    · rintro (⟨i, h, g⟩ | g)
      · exact ⟨i, by omega, g⟩
      · exact ⟨n, by omega, g⟩
    · rintro ⟨i, h, g⟩
      by_cases e : i = n
      · rw [e] at g; exact Or.inr g
      · exact Or.inl ⟨i, by omega, g⟩
theorem cs_add_le {k c : Int} {m : Nat} {p : Int} {a : cs_R} : cs_le (cs_add k m p a) c ↔ cs_le a (c - k) := by
  unfold cs_le cs_add
  cases a with
  | none => simp
  | some x =>
    constructor
    · rintro ⟨y, e, h⟩; cases e; exact ⟨x, rfl, by show x.1 ≤ c - k; have : k + x.1 ≤ c := h; omega⟩
    · rintro ⟨y, e, h⟩; cases e; exact ⟨_, rfl, by show k + x.1 ≤ c; omega⟩
theorem cs_le.mono {a : cs_R} {c d : Int} (h : cs_le a c) (e : c ≤ d) : cs_le a d := by
  obtain ⟨x, h1, h2⟩ := h
  exact ⟨x, h1, by omega⟩
theorem cs_none {a : cs_R} : a = none ↔ ∀ c, ¬ cs_le a c := by
  cases a with
  | none => exact ⟨fun _ c ⟨x, e, _⟩ => (by cases e), fun _ => rfl⟩
  | some x => exact ⟨fun h => (by cases h), fun h => absurd ⟨x, rfl, Int.le_refl _⟩ (h x.1)⟩
/-- the last of a fold isn't taken, if another is as little -/
theorem cs_fold_last {f : Nat → cs_R} {n : Nat} (h : ∀ c, cs_le (f n) c → ∃ i, i < n ∧ cs_le (f i) c) : cs_fold f (n + 1) = cs_fold f n := by
  show cs_min (cs_fold f n) (f n) = _
  cases e : f n with
  | none =>
    cases e2 : cs_fold f n with
    | none => rfl
    | some x => rfl
  | some y =>
    obtain ⟨i, hi, hl⟩ := h y.1 ⟨y, e, Int.le_refl _⟩
    obtain ⟨x, e2, hx⟩ := (cs_fold_le (f := f) (c := y.1) n).mpr ⟨i, hi, hl⟩
    rw [e2]
    exact if_neg (by omega)
def cs_d (a b : Nat) : Int := if a ≤ b then (b : Int) - a else (a : Int) - b
theorem cs_d_0 (a b : Nat) : 0 ≤ cs_d a b := by
  unfold cs_d
  split <;> omega
theorem cs_d_s (a : Nat) : cs_d a a = 0 := by
  unfold cs_d
  split <;> omega
section CP
variable (H : Nat → Int)
/-- towns; what a way costs between places (the SEA's is behind the last town), what a month brings -/
def cs_t : Nat := (H 0).toNat
def cs_cost (a b : Nat) : Int := H 1 * cs_d a b + (if b < cs_t H ∧ a ≠ b then H (10 + 9 * b) else 0)
def cs_gain (k m : Nat) : Int := if H (4 + 9 * k) < H (76 + m) then H (76 + m) - H (4 + 9 * k) else 0
def cs_lk (L : Nat → Int) (k m : Nat) : Nat → Int := fun j => if j = k then L j - cs_gain H k m else L j
def cs_code (c : Nat) : Int := if c = cs_t H then 8 else (c : Int)
def cs_met (L : Nat → Int) : Prop := ∀ k, k < cs_t H → L k ≤ 0
/-- the least of the months m, m + 1 .. (r of them), from a place, with what is lacking; and its first way -/
noncomputable def cs_S : Nat → Nat → Nat → (Nat → Int) → cs_R
  | 0, _, _, L => @ite _ (cs_met H L) (Classical.propDecidable _) (some (0, fun _ => 0)) none
  | r + 1, m, a, L => cs_fold (fun c => cs_add (cs_cost H a c) m (cs_code H c) (cs_S r (m + 1) c (cs_lk H L c m))) (cs_t H + 1)
/-- by towns alone -/
noncomputable def cs_T : Nat → Nat → Nat → (Nat → Int) → cs_R
  | 0, _, _, L => @ite _ (cs_met H L) (Classical.propDecidable _) (some (0, fun _ => 0)) none
  | r + 1, m, a, L => cs_fold (fun c => cs_add (cs_cost H a c) m (cs_code H c) (cs_T r (m + 1) c (cs_lk H L c m))) (cs_t H)
end CP
section CQ
variable {H : Nat → Int}
theorem cs_gain_0 (k m : Nat) : 0 ≤ cs_gain H k m := by
  unfold cs_gain
  split <;> omega
theorem cs_S0_le {m a : Nat} {L : Nat → Int} {c : Int} : cs_le (cs_S H 0 m a L) c ↔ cs_met H L ∧ 0 ≤ c := by
  unfold cs_S cs_le
  split
  · rename_i h
    exact ⟨fun ⟨x, e, hx⟩ => ⟨h, by cases e; exact hx⟩, fun q => ⟨_, rfl, q.2⟩⟩
  · rename_i h
    exact ⟨fun ⟨x, e, hx⟩ => (by cases e), fun q => absurd q.1 h⟩
theorem cs_S1_le {r m a : Nat} {L : Nat → Int} {c : Int} : cs_le (cs_S H (r + 1) m a L) c ↔ ∃ i, i < cs_t H + 1 ∧ cs_le (cs_S H r (m + 1) i (cs_lk H L i m)) (c - cs_cost H a i) := by
  show cs_le (cs_fold _ _) c ↔ _
  rw [cs_fold_le]
  exact ⟨fun ⟨i, h, g⟩ => ⟨i, h, cs_add_le.mp g⟩, fun ⟨i, h, g⟩ => ⟨i, h, cs_add_le.mpr g⟩⟩
/-- lacking less is no worse -/
theorem cs_S_mono : ∀ (r m a : Nat) (L L' : Nat → Int) (c : Int), (∀ k, k < cs_t H → L' k ≤ L k) → cs_le (cs_S H r m a L) c → cs_le (cs_S H r m a L') c
  | 0, m, a, L, L', c, h, g => by
    rw [cs_S0_le] at g ⊢
    exact ⟨fun k hk => Int.le_trans (h k hk) (g.1 k hk), g.2⟩
  | r + 1, m, a, L, L', c, h, g => by
    rw [cs_S1_le] at g ⊢
    obtain ⟨i, hi, g⟩ := g
    refine ⟨i, hi, cs_S_mono r _ _ _ _ _ (fun k hk => ?_) g⟩
    unfold cs_lk
    have := h k hk
    split <;> omega
/-- what the PLAIN gives: no number is less than nothing -/
def cs_ok (H : Nat → Int) : Prop := 0 ≤ H 1 ∧ ∀ k, k < cs_t H → 0 ≤ H (10 + 9 * k)
theorem cs_cost_0 (h : cs_ok H) (a b : Nat) : 0 ≤ cs_cost H a b := by
  have h1 : 0 ≤ H 1 * cs_d a b := Int.mul_nonneg h.1 (cs_d_0 a b)
  unfold cs_cost
  by_cases c : b < cs_t H ∧ a ≠ b
  · rw [if_pos c]; have := h.2 b c.1; omega
  · rw [if_neg c]; omega
theorem cs_cost_s (a : Nat) : cs_cost H a a = 0 := by
  unfold cs_cost
  rw [if_neg (fun h => h.2 rfl), cs_d_s, Int.mul_zero]; rfl
theorem cs_cost_sea (a : Nat) : cs_cost H a (cs_t H) = H 1 * cs_d a (cs_t H) := by
  unfold cs_cost
  rw [if_neg (fun h => absurd h.1 (Nat.lt_irrefl _)), Int.add_zero]
/-- over the SEA it isn't nearer -/
theorem cs_cost_tri (h : cs_ok H) {a b : Nat} (ha : a < cs_t H) (hb : b < cs_t H) : cs_cost H a b ≤ cs_cost H a (cs_t H) + cs_cost H (cs_t H) b := by
  rw [cs_cost_sea a]
  unfold cs_cost
  have h1 := h.2 b hb
  have h2 : H 1 * cs_d a b ≤ H 1 * cs_d a (cs_t H) + H 1 * cs_d (cs_t H) b := by
    rw [← Int.mul_add]
    refine Int.mul_le_mul_of_nonneg_left ?_ h.1
    unfold cs_d
    rw [if_pos (show a ≤ cs_t H by omega), if_neg (show ¬ cs_t H ≤ b by omega)]
    by_cases c : a ≤ b
    · rw [if_pos c]; omega
    · rw [if_neg c]; omega
  rw [if_pos (show b < cs_t H ∧ cs_t H ≠ b from ⟨hb, by omega⟩)]
  by_cases c : b < cs_t H ∧ a ≠ b
  · rw [if_pos c]; omega
  · rw [if_neg c]; omega
theorem cs_S_0 (h : cs_ok H) : ∀ (r m a : Nat) (L : Nat → Int) (c : Int), cs_le (cs_S H r m a L) c → 0 ≤ c
  | 0, m, a, L, c, g => (cs_S0_le.mp g).2
  | r + 1, m, a, L, c, g => by
    obtain ⟨i, hi, g⟩ := cs_S1_le.mp g
    have := cs_S_0 h r _ _ _ _ g
    have := cs_cost_0 h a i
    omega
/-- to stay is one way -/
theorem cs_S_stay {r m a : Nat} {L L' : Nat → Int} {c : Int} (ha : a < cs_t H + 1) (hl : ∀ k, k < cs_t H → cs_lk H L' a m k ≤ L k) (g : cs_le (cs_S H r (m + 1) a L) c) : cs_le (cs_S H (r + 1) m a L') c := by
  rw [cs_S1_le]
  refine ⟨a, ha, ?_⟩
  rw [cs_cost_s, Int.sub_zero]
  exact cs_S_mono _ _ _ _ _ _ hl g
theorem cs_lk_le (L : Nat → Int) (a m k : Nat) : cs_lk H L a m k ≤ L k := by
  unfold cs_lk
  have := cs_gain_0 (H := H) a m
  split <;> omega
/-- from a town it is no dearer than over the SEA -/
theorem cs_S_sea (h : cs_ok H) : ∀ (r m a : Nat) (L : Nat → Int) (c : Int), a < cs_t H → cs_le (cs_S H r m (cs_t H) L) c → cs_le (cs_S H r m a L) (cs_cost H a (cs_t H) + c)
  | 0, m, a, L, c, ha, g => by
    rw [cs_S0_le] at g ⊢
    have := cs_cost_0 h a (cs_t H)
    exact ⟨g.1, by omega⟩
  | r + 1, m, a, L, c, ha, g => by
    obtain ⟨i, hi, g⟩ := cs_S1_le.mp g
    by_cases e : i = cs_t H
    · subst e
      rw [cs_cost_s, Int.sub_zero] at g
      have g2 := cs_S_sea h r (m + 1) a _ c ha g
      refine cs_S_stay (by omega) (fun k hk => ?_) g2
      have : cs_lk H L (cs_t H) m k = L k := if_neg (by omega)
      rw [this]; exact cs_lk_le L a m k
    · refine cs_S1_le.mpr ⟨i, hi, g.mono ?_⟩
      have := cs_cost_tri h ha (show i < cs_t H by omega)
      omega
/-- from a town the SEA is never taken -/
theorem cs_S_T (h : cs_ok H) : ∀ (r m a : Nat) (L : Nat → Int), a < cs_t H → cs_S H r m a L = cs_T H r m a L
  | 0, m, a, L, ha => rfl
  | r + 1, m, a, L, ha => by
    have e : cs_S H (r + 1) m a L = cs_fold (fun c => cs_add (cs_cost H a c) m (cs_code H c) (cs_S H r (m + 1) c (cs_lk H L c m))) (cs_t H) := by
      refine cs_fold_last (fun c g => ⟨a, ha, ?_⟩)
      have g := cs_add_le.mp g
      refine cs_add_le.mpr ?_
      rw [cs_cost_s, Int.sub_zero]
      have g2 := cs_S_sea h r (m + 1) a _ _ ha g
      rw [show cs_cost H a (cs_t H) + (c - cs_cost H a (cs_t H)) = c by omega] at g2
      refine cs_S_mono _ _ _ _ _ _ (fun k hk => ?_) g2
      have : cs_lk H L (cs_t H) m k = L k := if_neg (by omega)
      rw [this]; exact cs_lk_le L a m k
    rw [e]
    have key : ∀ n, n ≤ cs_t H → cs_fold (fun c => cs_add (cs_cost H a c) m (cs_code H c) (cs_S H r (m + 1) c (cs_lk H L c m))) n = cs_fold (fun c => cs_add (cs_cost H a c) m (cs_code H c) (cs_T H r (m + 1) c (cs_lk H L c m))) n := by
      intro n
      induction n with
      | zero => intro _; rfl
      | succ n ih =>
        intro hn
        show cs_min _ _ = cs_min _ _
        rw [ih (by omega)]
        show cs_min _ (cs_add _ _ _ (cs_S H r (m + 1) n _)) = cs_min _ (cs_add _ _ _ (cs_T H r (m + 1) n _))
        rw [cs_S_T h r (m + 1) n _ (by omega)]
    exact key _ (Nat.le_refl _)
/-- from the SEA, when a town lacks: to wait is no better than to go at once -/
theorem cs_S_go (h : cs_ok H) : ∀ (r m : Nat) (L L' : Nat → Int) (c : Int), ¬ cs_met H L → (∀ k, k < cs_t H → L' k ≤ L k) → cs_le (cs_S H r m (cs_t H) L) c → ∃ i, i < cs_t H ∧ cs_le (cs_S H r m i L') (c - cs_cost H (cs_t H) i)
  | 0, m, L, L', c, hn, hl, g => absurd (cs_S0_le.mp g).1 hn
  | r + 1, m, L, L', c, hn, hl, g => by
    obtain ⟨i, hi, g⟩ := cs_S1_le.mp g
    by_cases e : i = cs_t H
    · subst e
      rw [cs_cost_s, Int.sub_zero] at g
      have hL : ∀ k, k < cs_t H → cs_lk H L (cs_t H) m k = L k := fun k hk => if_neg (by omega)
      obtain ⟨j, hj, g2⟩ := cs_S_go h r (m + 1) _ L' c (fun q => hn (fun k hk => by rw [← hL k hk]; exact q k hk)) (fun k hk => by rw [hL k hk]; exact hl k hk) g
      exact ⟨j, hj, cs_S_stay (by omega) (fun k hk => cs_lk_le L' j m k) g2⟩
    · refine ⟨i, by omega, ?_⟩
      refine cs_S_stay (by omega) (fun k hk => ?_) g
      unfold cs_lk
      have := hl k hk
      split <;> omega
theorem cs_S_start (h : cs_ok H) {r m : Nat} {L : Nat → Int} (hn : ¬ cs_met H L) : cs_S H (r + 1) m (cs_t H) L = cs_T H (r + 1) m (cs_t H) L := by
  have e : cs_S H (r + 1) m (cs_t H) L = cs_fold (fun c => cs_add (cs_cost H (cs_t H) c) m (cs_code H c) (cs_S H r (m + 1) c (cs_lk H L c m))) (cs_t H) := by
    refine cs_fold_last (fun c g => ?_)
    have g := cs_add_le.mp g
    rw [cs_cost_s, Int.sub_zero] at g
    have hL : ∀ k, k < cs_t H → cs_lk H L (cs_t H) m k = L k := fun k hk => if_neg (by omega)
    obtain ⟨j, hj, g2⟩ := cs_S_go h r (m + 1) _ L c (fun q => hn (fun k hk => by rw [← hL k hk]; exact q k hk)) (fun k hk => by rw [hL k hk]; exact Int.le_refl _) g
    exact ⟨j, hj, cs_add_le.mpr (cs_S_mono _ _ _ _ _ _ (fun k hk => cs_lk_le L j m k) g2)⟩
  rw [e]
  have key : ∀ n, n ≤ cs_t H → cs_fold (fun c => cs_add (cs_cost H (cs_t H) c) m (cs_code H c) (cs_S H r (m + 1) c (cs_lk H L c m))) n = cs_fold (fun c => cs_add (cs_cost H (cs_t H) c) m (cs_code H c) (cs_T H r (m + 1) c (cs_lk H L c m))) n := by
    intro n
    induction n with
    | zero => intro _; rfl
    | succ n ih =>
      intro hn
      show cs_min _ _ = cs_min _ _
      rw [ih (by omega)]
      show cs_min _ (cs_add _ _ _ (cs_S H r (m + 1) n _)) = cs_min _ (cs_add _ _ _ (cs_T H r (m + 1) n _))
      rw [cs_S_T h r (m + 1) n _ (by omega)]
  exact key _ (Nat.le_refl _)
end CQ
end
section
/-! ===== the best so far, and what a search adds to it ===== -/
theorem cs_min_none (a : cs_R) : cs_min a none = a := by
  cases a <;> rfl
theorem cs_min_assoc (a b c : cs_R) : cs_min (cs_min a b) c = cs_min a (cs_min b c) := by
  cases a with
  | none => rfl
  | some x =>
    cases b with
    | none => rfl
    | some y =>
      cases c with
      | none => rw [cs_min_none, cs_min_none]
      | some z =>
        show cs_min (if y.1 < x.1 then some y else some x) (some z) = cs_min (some x) (if z.1 < y.1 then some z else some y)
        by_cases p : y.1 < x.1
        · rw [if_pos p]
          by_cases q : z.1 < y.1
          · rw [if_pos q]
            show (if z.1 < y.1 then some z else some y) = (if z.1 < x.1 then some z else some x)
            rw [if_pos q, if_pos (by omega)]
          · rw [if_neg q]
            show (if z.1 < y.1 then some z else some y) = (if y.1 < x.1 then some y else some x)
            rw [if_neg q, if_pos p]
        · rw [if_neg p]
          by_cases q : z.1 < y.1
          · rw [if_pos q]
          · rw [if_neg q]
            show (if z.1 < x.1 then some z else some x) = (if y.1 < x.1 then some y else some x)
            rw [if_neg p, if_neg (by omega)]
/-- a way's end behind what was paid and planned already -/
def cs_pre (k : Int) (P : Nat → Int) (m : Nat) (a : cs_R) : cs_R := a.map (fun x => (k + x.1, fun j => if j < m then P j else x.2 j))
theorem cs_pre_min (k : Int) (P : Nat → Int) (m : Nat) (a b : cs_R) : cs_pre k P m (cs_min a b) = cs_min (cs_pre k P m a) (cs_pre k P m b) := by
  cases a with
  | none => rfl
  | some x =>
    cases b with
    | none => rfl
    | some y =>
      show cs_pre k P m (if y.1 < x.1 then some y else some x) = (if k + y.1 < k + x.1 then _ else _)
      by_cases c : y.1 < x.1
      · rw [if_pos c, if_pos (by omega)]; rfl
      · rw [if_neg c, if_neg (by omega)]; rfl
theorem cs_pre_fold (k : Int) (P : Nat → Int) (m : Nat) (f : Nat → cs_R) : ∀ n, cs_pre k P m (cs_fold f n) = cs_fold (fun i => cs_pre k P m (f i)) n
  | 0 => rfl
  | n + 1 => by
    show cs_pre k P m (cs_min _ _) = cs_min _ _
    rw [cs_pre_min, cs_pre_fold k P m f n]
theorem cs_pre_add (k q c : Int) (P P' : Nat → Int) (m : Nat) (a : cs_R) (h1 : ∀ j, j < m → P' j = P j) (h2 : P' m = c) : cs_pre k P m (cs_add q m c a) = cs_pre (k + q) P' (m + 1) a := by
  cases a with
  | none => rfl
  | some x =>
    show some (k + (q + x.1), _) = some (k + q + x.1, _)
    congr 1
    refine Prod.ext (by show k + (q + x.1) = k + q + x.1; omega) (funext fun j => ?_)
    show (if j < m then P j else if j = m then c else x.2 j) = (if j < m + 1 then P' j else x.2 j)
    by_cases e : j < m
    · rw [if_pos e, if_pos (by omega), h1 j e]
    · rw [if_neg e]
      by_cases e2 : j = m
      · rw [if_pos e2, if_pos (by omega), e2, h2]
      · rw [if_neg e2, if_neg (by omega)]
/-- nothing better comes of what costs as much already -/
theorem cs_cut {b : cs_R} {k : Int} {P : Nat → Int} {m : Nat} {a : cs_R} (h0 : ∀ c, cs_le a c → 0 ≤ c) (hb : cs_le b k) : cs_min b (cs_pre k P m a) = b := by
  obtain ⟨x, e, hx⟩ := hb
  cases a with
  | none => exact cs_min_none b
  | some y =>
    subst e
    show (if k + y.1 < x.1 then _ else some x) = some x
    have : 0 ≤ y.1 := h0 y.1 ⟨y, rfl, Int.le_refl _⟩
    exact if_neg (by omega)
theorem cs_cut_n {b : cs_R} {k : Int} {P : Nat → Int} {m : Nat} {a : cs_R} (h : a = none) : cs_min b (cs_pre k P m a) = b := by
  subst h; exact cs_min_none b
section CU
variable {H : Nat → Int}
/-- what months m .. m + r - 1 can bring a town altogether -/
def cs_all (H : Nat → Int) (k : Nat) : Nat → Nat → Int
  | 0, _ => 0
  | r + 1, m => cs_gain H k m + cs_all H k r (m + 1)
theorem cs_all_0 (k : Nat) : ∀ r m, 0 ≤ cs_all H k r m
  | 0, _ => Int.le_refl _
  | r + 1, m => by
    have := cs_all_0 k r (m + 1)
    have := cs_gain_0 (H := H) k m
    show 0 ≤ cs_gain H k m + cs_all H k r (m + 1)
    omega
/-- what all months together don't bring isn't brought -/
theorem cs_can : ∀ (r m a : Nat) (L : Nat → Int) (c : Int), cs_le (cs_S H r m a L) c → ∀ k, k < cs_t H → L k ≤ cs_all H k r m
  | 0, m, a, L, c, g, k, hk => (cs_S0_le.mp g).1 k hk
  | r + 1, m, a, L, c, g, k, hk => by
    obtain ⟨i, hi, g⟩ := cs_S1_le.mp g
    have h := cs_can r (m + 1) i _ _ g k hk
    have := cs_gain_0 (H := H) k m
    show L k ≤ cs_gain H k m + cs_all H k r (m + 1)
    unfold cs_lk at h
    by_cases e : k = i
    · rw [if_pos e] at h
      rw [← e] at h
      omega
    · rw [if_neg e] at h; omega
theorem cs_can_n {r m a : Nat} {L : Nat → Int} {k : Nat} (hk : k < cs_t H) (h : cs_all H k r m < L k) : cs_S H r m a L = none := by
  refine cs_none.mpr (fun c g => ?_)
  have := cs_can r m a L c g k hk
  omega
/-- a node of the search: its places tried one after another -/
noncomputable def cs_node (H : Nat → Int) (b : cs_R) (k : Int) (P : Nat → Int) (r m a : Nat) (L : Nat → Int) (n : Nat) : cs_R :=
  cs_min b (cs_fold (fun i => cs_pre (k + cs_cost H a i) (fun j => if j = m then cs_code H i else P j) (m + 1) (cs_S H r (m + 1) i (cs_lk H L i m))) n)
theorem cs_node_0 {b : cs_R} {k : Int} {P : Nat → Int} {r m a : Nat} {L : Nat → Int} : cs_node H b k P r m a L 0 = b := cs_min_none b
theorem cs_node_s {b : cs_R} {k : Int} {P : Nat → Int} {r m a : Nat} {L : Nat → Int} {n : Nat} : cs_node H b k P r m a L (n + 1) = cs_min (cs_node H b k P r m a L n) (cs_pre (k + cs_cost H a n) (fun j => if j = m then cs_code H n else P j) (m + 1) (cs_S H r (m + 1) n (cs_lk H L n m))) := by
  unfold cs_node
  rw [cs_min_assoc]; rfl
theorem cs_node_e {b : cs_R} {k : Int} {P : Nat → Int} {r m a : Nat} {L : Nat → Int} : cs_node H b k P r m a L (cs_t H + 1) = cs_min b (cs_pre k P m (cs_S H (r + 1) m a L)) := by
  unfold cs_node
  congr 1
  show _ = cs_pre k P m (cs_fold _ _)
  rw [cs_pre_fold]
  congr 1
  funext i
  exact (cs_pre_add k (cs_cost H a i) (cs_code H i) P (fun j => if j = m then cs_code H i else P j) m _ (fun j hj => if_neg (by omega)) (if_pos rfl)).symm
end CU
end
section
/-! ===== all needs are met: the first way that costs nothing ===== -/
theorem cs_fold_first {f : Nat → cs_R} {i : Nat} {x : Int × (Nat → Int)} (e : f i = some x) (hb : ∀ j, j < i → ∀ c, cs_le (f j) c → x.1 < c) : ∀ n, i < n → (∀ j, i < j → j < n → ∀ c, cs_le (f j) c → x.1 ≤ c) → cs_fold f n = some x
  | 0, h, _ => absurd h (Nat.not_lt_zero _)
  | n + 1, h, ha => by
    show cs_min (cs_fold f n) (f n) = _
    by_cases p : i = n
    · subst p
      rw [e]
      cases q : cs_fold f i with
      | none => rfl
      | some y =>
        obtain ⟨j, hj, hl⟩ := (cs_fold_le (f := f) (c := y.1) i).mp ⟨y, q, Int.le_refl _⟩
        have := hb j hj _ hl
        exact if_pos this
    · rw [cs_fold_first e hb n (by omega) (fun j h1 h2 => ha j h1 (by omega))]
      cases q : f n with
      | none => rfl
      | some y =>
        have := ha n (by omega) (by omega) y.1 ⟨y, q, Int.le_refl _⟩
        exact if_neg (by omega)
section CM
variable {H : Nat → Int}
theorem cs_met_S (h : cs_ok H) : ∀ (r m a : Nat) (L : Nat → Int), a < cs_t H + 1 → cs_met H L → ∃ P, cs_S H r m a L = some (0, P)
  | 0, m, a, L, ha, g => ⟨fun _ => 0, by unfold cs_S; exact if_pos g⟩
  | r + 1, m, a, L, ha, g => by
    have g2 : cs_met H (cs_lk H L a m) := fun k hk => Int.le_trans (cs_lk_le L a m k) (g k hk)
    obtain ⟨P, e⟩ := cs_met_S h r (m + 1) a _ ha g2
    have l : cs_le (cs_S H (r + 1) m a L) 0 := cs_S1_le.mpr ⟨a, ha, by rw [cs_cost_s]; exact ⟨_, e, Int.le_refl _⟩⟩
    obtain ⟨x, e1, hx⟩ := l
    have := cs_S_0 h (r + 1) m a L x.1 ⟨x, e1, Int.le_refl _⟩
    obtain ⟨x1, x2⟩ := x
    have hx' : x1 ≤ 0 := hx
    have this' : 0 ≤ x1 := this
    have : x1 = 0 := by omega
    subst this
    exact ⟨x2, e1⟩
/-- one month of it: the first place that is come to for nothing -/
theorem cs_met_step (h : cs_ok H) {r m a p : Nat} {L : Nat → Int} (g : cs_met H L) (hp : p < cs_t H + 1) (h0 : cs_cost H a p = 0) (hf : ∀ j, j < p → cs_cost H a j ≠ 0) : cs_S H (r + 1) m a L = cs_add 0 m (cs_code H p) (cs_S H r (m + 1) p (cs_lk H L p m)) := by
  have g2 : cs_met H (cs_lk H L p m) := fun k hk => Int.le_trans (cs_lk_le L p m k) (g k hk)
  obtain ⟨P, e⟩ := cs_met_S h r (m + 1) p _ hp g2
  rw [e]
  show cs_fold (fun c => cs_add (cs_cost H a c) m (cs_code H c) (cs_S H r (m + 1) c (cs_lk H L c m))) (cs_t H + 1) = some (0 + 0, _)
  refine cs_fold_first (i := p) ?_ (fun j hj c q => ?_) _ hp (fun j hj hn c q => ?_)
  · show cs_add (cs_cost H a p) m (cs_code H p) (cs_S H r (m + 1) p (cs_lk H L p m)) = _
    rw [e, h0]; rfl
  · have q := cs_S_0 h _ _ _ _ _ (cs_add_le.mp q)
    have := cs_cost_0 h a j
    have := hf j hj
    show (0 : Int) + 0 < c
    omega
  · have q := cs_S_0 h _ _ _ _ _ (cs_add_le.mp q)
    have := cs_cost_0 h a j
    show (0 : Int) + 0 ≤ c
    omega
end CM
end
