section
/-! ===== the reference's image and restore: names and the PLAIN's number (laid by a program) ===== -/
theorem rq_imA {G : mj_G} {M0 : mj_M} {m s kp : Nat} {k : Nat} {d : Nat} {Q : mj_P} (gm : G m = (1012, 0)) (gs : G s = (51100, 537)) (gk : G kp = (70100, 1076)) (r6 : M0.2.2 m 6 = some s) (r59 : M0.2.2 m 59 = some kp) (hk : k < 2) : ∀ (f i : Nat) (M : mj_M) (cb sb : Nat), i + f = 537 → M.2 = M0.2 → (∀ a, a ≠ kp → M.1 a = M0.1 a) → (∀ M' cb sb, M'.2 = M0.2 → (∀ a, a ≠ kp → M'.1 a = M0.1 a) → wz d mt_X12_image.2.2.2.2.1 Q (mt_X12_image.2.2.2.2.1.drop 29) [some (.inr (.inr (some m))), some (.inl (k : Int)), some (.inl 537)] [] G M' cb sb) → wz d mt_X12_image.2.2.2.2.1 Q (mt_X12_image.2.2.2.2.1.drop 12) [some (.inr (.inr (some m))), some (.inl (k : Int)), some (.inl (i : Int))] [] G M cb sb := by
  intro f
  induction f with
  | zero =>
    intro i M cb sb e h2 h1 kk
    have e : i = 537 := by omega
    subst e
    refine w_iln rfl ?_
    refine w_sp ?_
    refine w_cmge (fun c => ?_) (fun c => by exfalso; omega)
    exact kk M _ _ h2 h1
  | succ f ih =>
    intro i M cb sb e h2 h1 kk
    refine w_iln rfl ?_
    refine w_sp ?_
    refine w_cmge (fun c => by exfalso; omega) (fun c => ?_)
    refine w_aln rfl ?_
    refine w_gr gm rfl (by decide) rfl (by rw [h2]; exact r59) ?_
    refine w_sp ?_
    refine w_iln rfl ?_
    refine w_mul ⟨by omega, by omega⟩ ?_
    refine w_iln rfl ?_
    refine w_add ⟨by omega, by omega⟩ ?_
    refine w_aln rfl ?_
    refine w_gr gm rfl (by decide) rfl (by rw [h2]; exact r6) ?_
    refine w_iln rfl ?_
    refine w_iald (v := M.1 s (i : Int).toNat) gs rfl (by omega) (by show (i : Int) < ((537 : Nat) : Int); omega) rfl ?_
    refine w_iast gk rfl (by decide) (by omega) (by show 538 * (k : Int) + (i : Int) < ((1076 : Nat) : Int); omega) ?_
    refine w_ii rfl ⟨by omega, by omega⟩ ?_
    refine w_goto ?_
    exact ih (i + 1) _ _ _ (by omega) h2 (fun a ha => (wz_c ha).trans (h1 a ha)) kk
theorem rq_reA {G : mj_G} {M0 : mj_M} {m s kp : Nat} {k : Nat} {d : Nat} {Q : mj_P} (gm : G m = (1012, 0)) (gs : G s = (51100, 537)) (gk : G kp = (70100, 1076)) (r6 : M0.2.2 m 6 = some s) (r59 : M0.2.2 m 59 = some kp) (hk : k < 2) : ∀ (f i : Nat) (M : mj_M) (cb sb : Nat), i + f = 537 → M.2 = M0.2 → (∀ a, a ≠ s → M.1 a = M0.1 a) → (∀ M' cb sb, M'.2 = M0.2 → (∀ a, a ≠ s → M'.1 a = M0.1 a) → wz d mt_X12_restore.2.2.2.2.1 Q (mt_X12_restore.2.2.2.2.1.drop 34) [some (.inr (.inr (some m))), some (.inl (k : Int)), some (.inl 537)] [] G M' cb sb) → wz d mt_X12_restore.2.2.2.2.1 Q (mt_X12_restore.2.2.2.2.1.drop 17) [some (.inr (.inr (some m))), some (.inl (k : Int)), some (.inl (i : Int))] [] G M cb sb := by
  intro f
  induction f with
  | zero =>
    intro i M cb sb e h2 h1 kk
    have e : i = 537 := by omega
    subst e
    refine w_iln rfl ?_
    refine w_sp ?_
    refine w_cmge (fun c => ?_) (fun c => by exfalso; omega)
    exact kk M _ _ h2 h1
  | succ f ih =>
    intro i M cb sb e h2 h1 kk
    refine w_iln rfl ?_
    refine w_sp ?_
    refine w_cmge (fun c => by exfalso; omega) (fun c => ?_)
    refine w_aln rfl ?_
    refine w_gr gm rfl (by decide) rfl (by rw [h2]; exact r6) ?_
    refine w_iln rfl ?_
    refine w_aln rfl ?_
    refine w_gr gm rfl (by decide) rfl (by rw [h2]; exact r59) ?_
    refine w_sp ?_
    refine w_iln rfl ?_
    refine w_mul ⟨by omega, by omega⟩ ?_
    refine w_iln rfl ?_
    refine w_add ⟨by omega, by omega⟩ ?_
    refine w_iald (v := M.1 kp (538 * (k : Int) + (i : Int)).toNat) gk rfl (by omega) (by show 538 * (k : Int) + (i : Int) < ((1076 : Nat) : Int); omega) rfl ?_
    refine w_iast gs rfl (by decide) (by omega) (by show (i : Int) < ((537 : Nat) : Int); omega) ?_
    refine w_ii rfl ⟨by omega, by omega⟩ ?_
    refine w_goto ?_
    exact ih (i + 1) _ _ _ (by omega) h2 (fun a ha => (wz_c ha).trans (h1 a ha)) kk
theorem rq_imB {G : mj_G} {M0 : mj_M} {m nk ns : Nat} {k : Nat} {d : Nat} {Q : mj_P} (gm : G m = (1012, 0)) (gnk : G nk = (71103, 16)) (gns : G ns = (54103, 16)) (r9 : M0.2.2 m 9 = some ns) (r60 : M0.2.2 m 60 = some nk) (hk : k < 2) : ∀ (f i : Nat) (M : mj_M) (cb sb : Nat), i + f = 8 → M.1 = M0.1 → M.2.2 = M0.2.2 → (∀ j, j < i → M.2.1 nk (8 * k + j) = M0.2.1 ns j) → (∀ a j, ¬ (a = nk ∧ 8 * k ≤ j ∧ j < 8 * k + 8) → M.2.1 a j = M0.2.1 a j) → (∀ M' cb sb, M'.1 = M0.1 → M'.2.2 = M0.2.2 → (∀ j, j < 8 → M'.2.1 nk (8 * k + j) = M0.2.1 ns j) → (∀ a j, ¬ (a = nk ∧ 8 * k ≤ j ∧ j < 8 * k + 8) → M'.2.1 a j = M0.2.1 a j) → wz d mt_X12_image.2.2.2.2.1 Q (mt_X12_image.2.2.2.2.1.drop 58) [some (.inr (.inr (some m))), some (.inl (k : Int)), some (.inl 8)] [] G M' cb sb) → wz d mt_X12_image.2.2.2.2.1 Q (mt_X12_image.2.2.2.2.1.drop 41) [some (.inr (.inr (some m))), some (.inl (k : Int)), some (.inl (i : Int))] [] G M cb sb := by
  have nn : ns ≠ nk := hn_ne gns gnk (by decide)
  intro f
  induction f with
  | zero =>
    intro i M cb sb e h1 h2 h3 h4 kk
    have e : i = 8 := by omega
    subst e
    refine w_iln rfl ?_
    refine w_bp ?_
    refine w_cmge (fun c => ?_) (fun c => by exfalso; omega)
    exact kk M _ _ h1 h2 h3 h4
  | succ f ih =>
    intro i M cb sb e h1 h2 h3 h4 kk
    refine w_iln rfl ?_
    refine w_bp ?_
    refine w_cmge (fun c => by exfalso; omega) (fun c => ?_)
    refine w_aln rfl ?_
    refine w_gr gm rfl (by decide) rfl (by rw [h2]; exact r60) ?_
    refine w_bp ?_
    refine w_iln rfl ?_
    refine w_mul ⟨by omega, by omega⟩ ?_
    refine w_iln rfl ?_
    refine w_add ⟨by omega, by omega⟩ ?_
    refine w_aln rfl ?_
    refine w_gr gm rfl (by decide) rfl (by rw [h2]; exact r9) ?_
    refine w_iln rfl ?_
    refine w_lald (v := M0.2.1 ns i) gns rfl (by omega) (by show (i : Int) < ((16 : Nat) : Int); omega) (by rw [show ((i : Int)).toNat = i by omega]; exact h4 ns i (fun q => nn q.1)) ?_
    refine w_last gnk rfl (by decide) (by omega) (by show 8 * (k : Int) + (i : Int) < ((16 : Nat) : Int); omega) ?_
    refine w_ii rfl ⟨by omega, by omega⟩ ?_
    refine w_goto ?_
    rw [show (8 * (k : Int) + (i : Int)).toNat = 8 * k + i by omega]
    refine ih (i + 1) _ _ _ (by omega) h1 h2 (fun j hj => ?_) (fun a j hn => (wz_nl ?_).trans (h4 a j hn)) kk
    · rcases Nat.lt_or_ge j i with q | q
      · exact (wz_nl (Or.inr (by omega))).trans (h3 j q)
      · rw [show j = i by omega]; exact wz_sl
    · by_cases q : a = nk
      · exact Or.inr (fun e => hn ⟨q, by omega, by omega⟩)
      · exact Or.inl q
theorem rq_reB {G : mj_G} {M0 : mj_M} {m nk ns : Nat} {k : Nat} {d : Nat} {Q : mj_P} (gm : G m = (1012, 0)) (gnk : G nk = (71103, 16)) (gns : G ns = (54103, 16)) (r9 : M0.2.2 m 9 = some ns) (r60 : M0.2.2 m 60 = some nk) (hk : k < 2) : ∀ (f i : Nat) (M : mj_M) (cb sb : Nat), i + f = 8 → M.1 = M0.1 → M.2.2 = M0.2.2 → (∀ j, j < i → M.2.1 ns j = M0.2.1 nk (8 * k + j)) → (∀ a j, ¬ (a = ns ∧ j < 8) → M.2.1 a j = M0.2.1 a j) → (∀ M' cb sb, M'.1 = M0.1 → M'.2.2 = M0.2.2 → (∀ j, j < 8 → M'.2.1 ns j = M0.2.1 nk (8 * k + j)) → (∀ a j, ¬ (a = ns ∧ j < 8) → M'.2.1 a j = M0.2.1 a j) → wz d mt_X12_restore.2.2.2.2.1 Q (mt_X12_restore.2.2.2.2.1.drop 63) [some (.inr (.inr (some m))), some (.inl (k : Int)), some (.inl 8)] [] G M' cb sb) → wz d mt_X12_restore.2.2.2.2.1 Q (mt_X12_restore.2.2.2.2.1.drop 46) [some (.inr (.inr (some m))), some (.inl (k : Int)), some (.inl (i : Int))] [] G M cb sb := by
  have nn : nk ≠ ns := hn_ne gnk gns (by decide)
  intro f
  induction f with
  | zero =>
    intro i M cb sb e h1 h2 h3 h4 kk
    have e : i = 8 := by omega
    subst e
    refine w_iln rfl ?_
    refine w_bp ?_
    refine w_cmge (fun c => ?_) (fun c => by exfalso; omega)
    exact kk M _ _ h1 h2 h3 h4
  | succ f ih =>
    intro i M cb sb e h1 h2 h3 h4 kk
    refine w_iln rfl ?_
    refine w_bp ?_
    refine w_cmge (fun c => by exfalso; omega) (fun c => ?_)
    refine w_aln rfl ?_
    refine w_gr gm rfl (by decide) rfl (by rw [h2]; exact r9) ?_
    refine w_iln rfl ?_
    refine w_aln rfl ?_
    refine w_gr gm rfl (by decide) rfl (by rw [h2]; exact r60) ?_
    refine w_bp ?_
    refine w_iln rfl ?_
    refine w_mul ⟨by omega, by omega⟩ ?_
    refine w_iln rfl ?_
    refine w_add ⟨by omega, by omega⟩ ?_
    refine w_lald (v := M0.2.1 nk (8 * k + i)) gnk rfl (by omega) (by show 8 * (k : Int) + (i : Int) < ((16 : Nat) : Int); omega) (by rw [show (8 * (k : Int) + (i : Int)).toNat = 8 * k + i by omega]; exact h4 nk _ (fun q => nn q.1)) ?_
    refine w_last gns rfl (by decide) (by omega) (by show (i : Int) < ((16 : Nat) : Int); omega) ?_
    refine w_ii rfl ⟨by omega, by omega⟩ ?_
    refine w_goto ?_
    rw [show ((i : Int)).toNat = i by omega]
    refine ih (i + 1) _ _ _ (by omega) h1 h2 (fun j hj => ?_) (fun a j hn => (wz_nl ?_).trans (h4 a j hn)) kk
    · rcases Nat.lt_or_ge j i with q | q
      · exact (wz_nl (Or.inr (by omega))).trans (h3 j q)
      · rw [show j = i by omega]; exact wz_sl
    · by_cases q : a = ns
      · exact Or.inr (fun e => hn ⟨q, by omega⟩)
      · exact Or.inl q
/-- what image, restore of the reference tell of names and the PLAIN's number -/
def rq_mz (M M' : mj_M) (m kp nk ns : Nat) (z1 : Int) : Prop := (¬ (0 ≤ z1 ∧ z1 ≤ 1) → M'.2.1 = M.2.1 ∧ (∀ a, a ≠ m → M'.1 a = M.1 a) ∧ M'.1 m 25 = M.1 m 25) ∧ (∀ k : Nat, k < 2 → z1 = (k : Int) → (∀ j, j < 8 → M'.2.1 nk (8 * k + j) = M.2.1 ns j) ∧ (∀ a j, ¬ (a = nk ∧ 8 * k ≤ j ∧ j < 8 * k + 8) → M'.2.1 a j = M.2.1 a j) ∧ M'.1 kp (538 * k + 537) = M.1 m 25 ∧ M'.1 m 25 = M.1 m 25)
def rq_rz (M M' : mj_M) (m kp nk ns ik : Nat) (z1 : Int) : Prop := ((¬ (0 ≤ z1 ∧ z1 ≤ 1) ∨ M.1 ik z1.toNat = 0) → M'.2.1 = M.2.1 ∧ (∀ a, a ≠ m → M'.1 a = M.1 a) ∧ M'.1 m 25 = M.1 m 25) ∧ (∀ k : Nat, k < 2 → z1 = (k : Int) → M.1 ik k ≠ 0 → (∀ j, j < 8 → M'.2.1 ns j = M.2.1 nk (8 * k + j)) ∧ (∀ a j, ¬ (a = ns ∧ j < 8) → M'.2.1 a j = M.2.1 a j) ∧ M'.1 m 25 = M.1 kp (538 * k + 537))
theorem rq_image {G : mj_G} {M : mj_M} {m s kp nk ns ik : Nat} {z1 : Int} {d : Nat} (gm : G m = (1012, 0)) (gs : G s = (51100, 537)) (gk : G kp = (70100, 1076)) (gnk : G nk = (71103, 16)) (gns : G ns = (54103, 16)) (gik : G ik = (72102, 2)) (r6 : M.2.2 m 6 = some s) (r59 : M.2.2 m 59 = some kp) (r60 : M.2.2 m 60 = some nk) (r9 : M.2.2 m 9 = some ns) (r61 : M.2.2 m 61 = some ik) : mj_R mj_tab (d + 2) 195 [.inr (.inr (some m)), .inl z1] G M (fun _ _ M' => rq_mz M M' m kp nk ns z1) := by
  refine ⟨Nat.le_of_ble_eq_true rfl, ?_⟩
  show wz (d + 1) mt_X12_image.2.2.2.2.1 _ mt_X12_image.2.2.2.2.1 [some (.inr (.inr (some m))), some (.inl z1), none] [] G M _ _
  have bad : ¬ (0 ≤ z1 ∧ z1 ≤ 1) → ∀ cb sb, wz (d + 1) mt_X12_image.2.2.2.2.1 (fun _ _ M' => rq_mz M M' m kp nk ns z1) (mt_X12_image.2.2.2.2.1.drop 7) [some (.inr (.inr (some m))), some (.inl z1), none] [.inl 0] G (mj_p0 M m 0 0) cb sb := fun hn cb sb => by
    refine w_ifne (fun c => absurd rfl c) (fun _ => ?_)
    refine w_ic ?_
    exact w_iret (fun _ => Or.inl rfl) ⟨fun _ => ⟨rfl, fun a ha => wz_c ha, hn_n (Or.inr (by decide))⟩, fun k hk e => absurd ⟨by omega, by omega⟩ hn⟩
  refine w_aln rfl ?_
  refine w_ic ?_
  refine w_pi gm rfl (by decide) rfl (fun q => by cases q) ?_
  refine w_iln rfl ?_
  refine w_ic ?_
  refine w_ic ?_
  refine w_cs (st := []) rfl (Nat.le_of_ble_eq_true rfl) (fun kk h => h) ⟨Nat.le_of_ble_eq_true rfl, ?_⟩
  show wz d mt_X12_isIn.2.2.2.2.1 _ mt_X12_isIn.2.2.2.2.1 [some (.inl z1), some (.inl 0), some (.inl 1)] [] _ _ _ _
  refine w_iln rfl ?_
  refine w_iln rfl ?_
  refine w_cmlt (fun c1 => ?_) (fun c1 => ?_)
  · refine w_ic ?_
    refine w_iret (fun _ => Or.inl rfl) ?_
    exact bad (by omega) _ _
  refine w_iln rfl ?_
  refine w_iln rfl ?_
  refine w_cmgt (fun c2 => ?_) (fun c2 => ?_)
  · refine w_ic ?_
    refine w_iret (fun _ => Or.inl rfl) ?_
    exact bad (by omega) _ _
  refine w_ic ?_
  refine w_goto ?_
  refine w_iret (fun _ => Or.inr rfl) ?_
  obtain ⟨k, hk, ek⟩ : ∃ k : Nat, k < 2 ∧ z1 = (k : Int) := ⟨z1.toNat, by omega, by omega⟩
  subst ek
  refine w_ifne (fun _ => ?_) (fun c => absurd c (by decide))
  refine w_ic ?_
  refine w_isn ?_
  refine rq_imA (M0 := mj_p0 M m 0 0) gm gs gk r6 r59 hk 537 0 _ _ _ (by omega) rfl (fun _ _ => rfl) (fun M1 cb sb u2 u1 => ?_)
  refine w_aln rfl ?_
  refine w_gr gm rfl (by decide) rfl (by rw [u2]; exact r59) ?_
  refine w_sp ?_
  refine w_iln rfl ?_
  refine w_mul ⟨by omega, by omega⟩ ?_
  refine w_sp ?_
  refine w_add ⟨by omega, by omega⟩ ?_
  refine w_aln rfl ?_
  have mk : m ≠ kp := hn_ne gm gk (by decide)
  refine w_gi (v := M.1 m 25) gm rfl (by decide) rfl ((congrFun (u1 m mk) 25).trans (hn_n (Or.inr (by decide)))) ?_
  refine w_iast gk rfl (by decide) (by omega) (by show 538 * (k : Int) + 537 < ((1076 : Nat) : Int); omega) ?_
  rw [show (538 * (k : Int) + 537).toNat = 538 * k + 537 by omega]
  refine w_ic ?_
  refine w_isn ?_
  refine rq_imB (M0 := mj_p0 M1 kp (538 * k + 537) (M.1 m 25)) gm gnk gns (by show M1.2.2 m 9 = _; rw [u2]; exact r9) (by show M1.2.2 m 60 = _; rw [u2]; exact r60) hk 8 0 _ _ _ (by omega) rfl rfl (fun j hj => absurd hj (Nat.not_lt_zero j)) (fun _ _ _ => rfl) (fun M2 cb sb v1 v2 v3 v4 => ?_)
  refine w_aln rfl ?_
  refine w_gr gm rfl (by decide) rfl (by rw [v2]; show M1.2.2 m 61 = _; rw [u2]; exact r61) ?_
  refine w_iln rfl ?_
  refine w_ic ?_
  refine w_zast (Or.inr rfl) gik rfl (by decide) (by omega) (by show (k : Int) < ((2 : Nat) : Int); omega) ?_
  refine w_ic ?_
  refine w_iret (fun _ => Or.inr rfl) ⟨fun n => absurd ⟨by omega, by omega⟩ n, fun k' hk' e => ?_⟩
  obtain rfl : k' = k := by omega
  refine ⟨fun j hj => ?_, fun a j hn => ?_, ?_, ?_⟩
  · show M2.2.1 nk (8 * k' + j) = _
    rw [v3 j hj]; show M1.2.1 ns j = _; rw [u2]; rfl
  · show M2.2.1 a j = _
    rw [v4 a j hn]; show M1.2.1 a j = _; rw [u2]; rfl
  · refine (hn_n (Or.inl (hn_ne gk gik (by decide)))).trans ?_
    rw [v1]; exact hn_s
  · refine (hn_n (Or.inl (hn_ne gm gik (by decide)))).trans ?_
    rw [v1]; exact (hn_n (Or.inl mk)).trans ((congrFun (u1 m mk) 25).trans (hn_n (Or.inr (by decide))))
theorem rq_restore {G : mj_G} {M : mj_M} {m s kp nk ns ik : Nat} {z1 : Int} {d : Nat} (gm : G m = (1012, 0)) (gs : G s = (51100, 537)) (gk : G kp = (70100, 1076)) (gnk : G nk = (71103, 16)) (gns : G ns = (54103, 16)) (gik : G ik = (72102, 2)) (r6 : M.2.2 m 6 = some s) (r59 : M.2.2 m 59 = some kp) (r60 : M.2.2 m 60 = some nk) (r9 : M.2.2 m 9 = some ns) (r61 : M.2.2 m 61 = some ik) : mj_R mj_tab (d + 2) 235 [.inr (.inr (some m)), .inl z1] G M (fun _ _ M' => rq_rz M M' m kp nk ns ik z1) := by
  refine ⟨Nat.le_of_ble_eq_true rfl, ?_⟩
  show wz (d + 1) mt_X12_restore.2.2.2.2.1 _ mt_X12_restore.2.2.2.2.1 [some (.inr (.inr (some m))), some (.inl z1), none] [] G M _ _
  have bad2 : (¬ (0 ≤ z1 ∧ z1 ≤ 1) ∨ M.1 ik z1.toNat = 0) → ∀ cb sb, wz (d + 1) mt_X12_restore.2.2.2.2.1 (fun _ _ M' => rq_rz M M' m kp nk ns ik z1) (mt_X12_restore.2.2.2.2.1.drop 13) [some (.inr (.inr (some m))), some (.inl z1), none] [] G (mj_p0 M m 0 0) cb sb := fun hn cb sb => by
    refine w_ic ?_
    refine w_iret (fun _ => Or.inl rfl) ⟨fun _ => ⟨rfl, fun a ha => wz_c ha, hn_n (Or.inr (by decide))⟩, fun k hk e h0 => ?_⟩
    rcases hn with hn | hn
    · exact absurd ⟨by omega, by omega⟩ hn
    · rw [e] at hn; exact absurd hn h0
  have bad : ¬ (0 ≤ z1 ∧ z1 ≤ 1) → ∀ cb sb, wz (d + 1) mt_X12_restore.2.2.2.2.1 (fun _ _ M' => rq_rz M M' m kp nk ns ik z1) (mt_X12_restore.2.2.2.2.1.drop 7) [some (.inr (.inr (some m))), some (.inl z1), none] [.inl 0] G (mj_p0 M m 0 0) cb sb := fun hn cb sb => by
    refine w_ifeq (fun _ => bad2 (Or.inl hn) _ _) (fun c => absurd rfl c)
  refine w_aln rfl ?_
  refine w_ic ?_
  refine w_pi gm rfl (by decide) rfl (fun q => by cases q) ?_
  refine w_iln rfl ?_
  refine w_ic ?_
  refine w_ic ?_
  refine w_cs (st := []) rfl (Nat.le_of_ble_eq_true rfl) (fun kk h => h) ⟨Nat.le_of_ble_eq_true rfl, ?_⟩
  show wz d mt_X12_isIn.2.2.2.2.1 _ mt_X12_isIn.2.2.2.2.1 [some (.inl z1), some (.inl 0), some (.inl 1)] [] _ _ _ _
  refine w_iln rfl ?_
  refine w_iln rfl ?_
  refine w_cmlt (fun c1 => ?_) (fun c1 => ?_)
  · refine w_ic ?_
    refine w_iret (fun _ => Or.inl rfl) ?_
    exact bad (by omega) _ _
  refine w_iln rfl ?_
  refine w_iln rfl ?_
  refine w_cmgt (fun c2 => ?_) (fun c2 => ?_)
  · refine w_ic ?_
    refine w_iret (fun _ => Or.inl rfl) ?_
    exact bad (by omega) _ _
  refine w_ic ?_
  refine w_goto ?_
  refine w_iret (fun _ => Or.inr rfl) ?_
  obtain ⟨k, hk, ek⟩ : ∃ k : Nat, k < 2 ∧ z1 = (k : Int) := ⟨z1.toNat, by omega, by omega⟩
  subst ek
  refine w_ifeq (fun c => absurd c (by decide)) (fun _ => ?_)
  refine w_aln rfl ?_
  refine w_gr gm rfl (by decide) rfl r61 ?_
  refine w_iln rfl ?_
  refine w_zald (v := M.1 ik k) gik rfl (by omega) (by show (k : Int) < ((2 : Nat) : Int); omega) (by rw [show ((k : Int)).toNat = k by omega]; exact hn_n (Or.inl (hn_ne gik gm (by decide)))) ?_
  refine w_ifne (fun c3 => ?_) (fun c3 => bad2 (Or.inr (by rw [show ((k : Int)).toNat = k by omega]; exact c3)) _ _)
  refine w_ic ?_
  refine w_isn ?_
  refine rq_reA (M0 := mj_p0 M m 0 0) gm gs gk r6 r59 hk 537 0 _ _ _ (by omega) rfl (fun _ _ => rfl) (fun M1 cb sb u2 u1 => ?_)
  refine w_aln rfl ?_
  refine w_aln rfl ?_
  refine w_gr gm rfl (by decide) rfl (by rw [u2]; exact r59) ?_
  refine w_sp ?_
  refine w_iln rfl ?_
  refine w_mul ⟨by omega, by omega⟩ ?_
  refine w_sp ?_
  refine w_add ⟨by omega, by omega⟩ ?_
  refine w_iald (v := M.1 kp (538 * k + 537)) gk rfl (by omega) (by show 538 * (k : Int) + 537 < ((1076 : Nat) : Int); omega) (by rw [show (538 * (k : Int) + 537).toNat = 538 * k + 537 by omega]; exact (congrFun (u1 kp (hn_ne gk gs (by decide))) _).trans (hn_n (Or.inl (hn_ne gk gm (by decide))))) ?_
  refine w_pi gm rfl (by decide) rfl (fun q => by cases q) ?_
  refine w_ic ?_
  refine w_isn ?_
  refine rq_reB (M0 := mj_p0 M1 m 25 (M.1 kp (538 * k + 537))) gm gnk gns (by show M1.2.2 m 9 = _; rw [u2]; exact r9) (by show M1.2.2 m 60 = _; rw [u2]; exact r60) hk 8 0 _ _ _ (by omega) rfl rfl (fun j hj => absurd hj (Nat.not_lt_zero j)) (fun _ _ _ => rfl) (fun M2 cb sb v1 v2 v3 v4 => ?_)
  refine w_aln rfl ?_
  refine w_ic ?_
  refine w_pi gm rfl (by decide) rfl (fun q => by cases q) ?_
  refine w_ic ?_
  refine w_iret (fun _ => Or.inr rfl) ⟨fun n => ?_, fun k' hk' e h0 => ?_⟩
  · exfalso
    rcases n with n | n
    · exact n ⟨by omega, by omega⟩
    · rw [show ((k : Int)).toNat = k by omega] at n; exact c3 n
  obtain rfl : k' = k := by omega
  refine ⟨fun j hj => ?_, fun a j hn => ?_, ?_⟩
  · show M2.2.1 ns j = _
    rw [v3 j hj]; show M1.2.1 nk (8 * k' + j) = _; rw [u2]; rfl
  · show M2.2.1 a j = _
    rw [v4 a j hn]; show M1.2.1 a j = _; rw [u2]; rfl
  · refine (hn_n (Or.inr (by decide))).trans ?_
    rw [v1]; exact hn_s
end
section
/-! ===== names of the PLAINS now and of the images, alike on both sides ===== -/
def nz_1 (M : mj_M) (c a off : Nat) (n : Int) : Prop := ∃ nm : Nat → List Int, (∀ j, j < 8 → M.2.1 c j = rv_5 (nm j) ∧ rv_wo (nm j)) ∧ (∀ j : Nat, (j : Int) < n → M.2.1 a (off + j) = rv_8 (nm j))
theorem nz_1.cg {M M' : mj_M} {c a off c' a' off' : Nat} {n n' : Int} (h : nz_1 M c a off n) (e1 : ∀ j, j < 8 → M'.2.1 c' j = M.2.1 c j) (e2 : ∀ j : Nat, (j : Int) < n' → M'.2.1 a' (off' + j) = M.2.1 a (off + j)) (en : n' ≤ n) : nz_1 M' c' a' off' n' := by
  obtain ⟨nm, h1, h2⟩ := h
  exact ⟨nm, fun j hj => by rw [e1 j hj]; exact h1 j hj, fun j hj => by rw [e2 j hj]; exact h2 j (by omega)⟩
def nz_R (G : mj_G) (M : mj_M) (m ns nk : Nat) : Prop := M.2.2 m 9 = some ns ∧ G ns = (54103, 16) ∧ M.2.2 m 60 = some nk ∧ G nk = (71103, 16)
def nz_N (M : mj_M) (s ns : Nat) (w : Nat → Nat) : Prop := ∀ p q, lq_N M w p q → nz_1 M (w (p + 1)) ns 0 (M.1 s 0)
def nz_I (M : mj_M) (kp kc nk : Nat) (w : Nat → Nat) : Prop := ∀ k : Nat, k < 2 → M.1 kc k ≠ 0 → nz_1 M (w (lq_ip k + 1)) nk (8 * k) (M.1 kp (538 * k))
def nz (G : mj_G) (M : mj_M) (s m kp kc : Nat) (w : Nat → Nat) : Prop := ∃ ns nk, nz_R G M m ns nk ∧ nz_N M s ns w ∧ nz_I M kp kc nk w
abbrev nz_c (W : List (Nat × Nat × Nat)) : Prop := ∀ q ∈ W, ¬ (q.1 = 51100 ∧ q.2.1 = 0) ∧ q.1 ≠ 70100 ∧ q.1 ≠ 48102 ∧ ¬ (q.1 = 1012 ∧ q.2.1 ≤ 9 ∧ 9 ≤ q.2.2) ∧ ¬ (q.1 = 1012 ∧ q.2.1 ≤ 60 ∧ 60 ≤ q.2.2) ∧ ¬ (q.1 = 1007 ∧ q.2.1 = 0)
section NZ
variable {G : mj_G} {M M' : mj_M} {x s m kp kc ud tp : Nat} {w : Nat → Nat} {z1 : Int}
theorem lq_N.back (e1 : M'.2.2 (w 29) 0 = M.2.2 (w 29) 0) (e2 : M'.2.2 (w 74) 0 = M.2.2 (w 74) 0) {p q : Nat} (h : lq_N M' w p q) : lq_N M w p q := ⟨e1.symm.trans h.1, e2.symm.trans h.2.1, h.2.2⟩
theorem nz_na (hA : lq_A G w) {P : Nat} (hP : P ∈ lq_Ps) : (G (w (P + 1))).1 % 1000 = 103 := by rw [(hA.2.1 P hP).2.1]; rfl
theorem nz.cg (h : nz G M s m kp kc w) (hA : lq_A G w) (r9 : M'.2.2 m 9 = M.2.2 m 9) (r60 : M'.2.2 m 60 = M.2.2 m 60) (n1 : M'.2.2 (w 29) 0 = M.2.2 (w 29) 0) (n2 : M'.2.2 (w 74) 0 = M.2.2 (w 74) 0) (es : M'.1 s 0 = M.1 s 0) (ek : M'.1 kp = M.1 kp) (ec : M'.1 kc = M.1 kc) (l : ∀ a k, (G a).1 % 1000 = 103 → (∀ p q, lq_N M w p q → a ≠ w (q + 1)) → M'.2.1 a k = M.2.1 a k) : nz G M' s m kp kc w := by
  obtain ⟨ns, nk, ⟨r1, r2, r3, r4⟩, hN, hI⟩ := h
  have ln_ : ∀ k, M'.2.1 ns k = M.2.1 ns k := fun k => l ns k (by rw [r2]; rfl) (fun p q hn e => hn_ne r2 ((hA.2.1 q hn.qin.1).2.1) (by decide) e)
  have lk : ∀ k, M'.2.1 nk k = M.2.1 nk k := fun k => l nk k (by rw [r4]; rfl) (fun p q hn e => hn_ne r4 ((hA.2.1 q hn.qin.1).2.1) (by decide) e)
  refine ⟨ns, nk, ⟨r9.trans r1, r2, r60.trans r3, r4⟩, fun p q hn => ?_, fun k hk h0 => ?_⟩
  · have hn0 := lq_N.back n1 n2 hn
    refine (hN p q hn0).cg (fun j _ => l _ j (nz_na hA hn0.pin.1) (fun p' q' hn' e => ?_)) (fun j _ => ln_ _) (by rw [es]; exact Int.le_refl _)
    have h4 := lq_P4 hn0.pin.1
    have h5 := lq_P4 hn'.qin.1
    have e := hA.1 _ _ (by omega) (by omega) e
    have := hn0.2.2; have := hn'.2.2; have a := Option.some.inj (hn0.1.symm.trans hn'.1)
    have := hA.1 _ _ (by omega) (by have := lq_P4 hn'.pin.1; omega) a
    omega
  · rw [ec] at h0; rw [ek]
    refine (hI k hk h0).cg (fun j _ => l _ j (nz_na hA (lq_ip_in k)) (fun p' q' hn' e => ?_)) (fun j _ => lk _) (Int.le_refl _)
    have h4 := lq_P4 (lq_ip_in k)
    have h5 := lq_P4 hn'.qin.1
    have e := hA.1 _ _ (by omega) (by omega) e
    exact hn'.nip k (by omega)
theorem nz.go {W : List (Nat × Nat × Nat)} (h : nz G M s m kp kc w) (hA : lq_A G w) (gm : G m = (1012, 0)) (gs : G s = (51100, 537)) (gk : G kp = (70100, 1076)) (gc : G kc = (48102, 2)) (f : ab_frm W G M M') (l : ln G M M') (c : nz_c W) : nz G M' s m kp kc w :=
  h.cg hA (f m 9 (by rw [gm]; rintro ⟨r, hr, e1, e2, e3⟩; exact (c r hr).2.2.2.1 ⟨e1, e2, e3⟩)).2 (f m 60 (by rw [gm]; rintro ⟨r, hr, e1, e2, e3⟩; exact (c r hr).2.2.2.2.1 ⟨e1, e2, e3⟩)).2 (f _ 0 (by rw [hA.2.2.1]; rintro ⟨r, hr, e1, e2, e3⟩; exact (c r hr).2.2.2.2.2 ⟨e1, by omega⟩)).2 (f _ 0 (by rw [hA.2.2.2.1]; rintro ⟨r, hr, e1, e2, e3⟩; exact (c r hr).2.2.2.2.2 ⟨e1, by omega⟩)).2 (f s 0 (by rw [gs]; rintro ⟨r, hr, e1, e2, e3⟩; exact (c r hr).1 ⟨e1, by omega⟩)).1 (funext fun k => (f kp k (by rw [gk]; rintro ⟨r, hr, e1, e2, e3⟩; exact (c r hr).2.1 e1)).1) (funext fun k => (f kc k (by rw [gc]; rintro ⟨r, hr, e1, e2, e3⟩; exact (c r hr).2.2.1 e1)).1) (fun a k ha _ => l a k ha)
theorem nz.mv (h : nz G M s m kp kc w) (hA : lq_A G w) (e1 : M'.1 = M.1) (e2 : M'.2.2 = M.2.2) (l : ∀ a k, (G a).1 % 1000 = 103 → (G a).1 ≠ 90103 → M'.2.1 a k = M.2.1 a k) : nz G M' s m kp kc w := by
  obtain ⟨ns, nk, ⟨r1, r2, r3, r4⟩, hN, hI⟩ := h
  refine ⟨ns, nk, ⟨by rw [e2]; exact r1, r2, by rw [e2]; exact r3, r4⟩, fun p q hn => ?_, fun k hk h0 => ?_⟩
  · have hn0 : lq_N M w p q := lq_N.back (by rw [e2]) (by rw [e2]) hn
    rw [e1]
    exact (hN p q hn0).cg (fun j _ => l _ j (nz_na hA hn0.pin.1) (by rw [(hA.2.1 p hn0.pin.1).2.1]; decide)) (fun j _ => l _ _ (by rw [r2]; rfl) (by rw [r2]; decide)) (Int.le_refl _)
  · rw [e1] at h0 ⊢
    exact (hI k hk h0).cg (fun j _ => l _ j (nz_na hA (lq_ip_in k)) (by rw [(hA.2.1 _ (lq_ip_in k)).2.1]; decide)) (fun j _ => l _ _ (by rw [r4]; rfl) (by rw [r4]; decide)) (Int.le_refl _)
/-- between plain of the class and of the reference -/
def nz_p (G : mj_G) (M : mj_M) (s m kp kc : Nat) (w : Nat → Nat) (y : rv_Om) : Prop := ∃ ns nk, nz_R G M m ns nk ∧ nz_I M kp kc nk w ∧ (∀ e, y = .inl e → nz_N M s ns w) ∧ (∀ PL WA OA TO BI nm r, y = .inr (PL, WA, OA, TO, BI, nm, r) → ∀ p q, lq_N M w p q → ∀ j, j < 8 → M.2.1 (w (p + 1)) j = rv_5 (nm j) ∧ rv_wo (nm j))
theorem nz.pl1 {y : rv_Om} (h : nz G M s m kp kc w) (hA : lq_A G w) (gx : G x = (1011, 0)) (gm : G m = (1012, 0)) (gtp : G tp = (1008, 0)) (gs : G s = (51100, 537)) (gk : G kp = (70100, 1076)) (gc : G kc = (48102, 2)) (py : lq_py G M M' x tp w y) : nz_p G M' s m kp kc w y := by
  obtain ⟨p, q, oa, dl, fa, sa, ca, se, ye, ud, hN, goa, hX, hF, hO⟩ := py
  obtain ⟨⟨-, g74, g29, gse, gye, gud, gdl, gfa, gsa, gca, -⟩, -⟩ := hX
  obtain ⟨gq, gqn, -, -, gqw, gqt, gqb⟩ := hA.2.1 q hN.qin.1
  have hp4 := lq_P4 hN.pin.1
  have hq4 := lq_P4 hN.qin.1
  have npq : p ≠ q := hN.qin.2
  have np1 : w (p + 1) ≠ w (q + 1) := fun e => by have := hA.1 _ _ (by omega) (by omega) e; omega
  have ni : ∀ k, w (lq_ip k + 1) ≠ w (q + 1) := fun k e => by
    have h4 := lq_P4 (lq_ip_in k)
    have := hA.1 _ _ (by omega) (by omega) e
    exact hN.nip k (by omega)
  rcases y with e | ⟨PL, WA, OA, TO, BI, nm, r⟩
  · obtain ⟨⟨f2, fl, f1⟩, -⟩ := hF e rfl
    have rf : ∀ a j, a ≠ tp → M'.2.2 a j = M.2.2 a j := fun a j ha => f2 a j (fun e => ha e.1)
    have tg : ∀ {a t u : Nat}, G a = (t, u) → t ≠ 1004 → t ≠ 26100 → t ≠ 28100 → t ≠ 29100 → t ≠ 30100 → t ≠ 1011 → t ≠ 1008 → M'.1 a = M.1 a := fun ga n1 n4 n6 n7 n8 n9 n10 => f1 _ (hn_ne ga gx n9) (hn_ne ga gtp n10) (hn_ne ga gq n1) (hn_ne ga gqw n7) (hn_ne ga goa n8) (fun t ht => hn_ne ga (gqt t ht) n4) (fun t ht => hn_ne ga (gqb t ht) n6)
    obtain ⟨ns, nk, hR, h1, h2⟩ := h.cg hA (rf m 9 (hn_ne gm gtp (by decide))) (rf m 60 (hn_ne gm gtp (by decide))) (rf _ 0 (hn_ne g29 gtp (by decide))) (rf _ 0 (hn_ne g74 gtp (by decide))) (congrFun (tg gs (by decide) (by decide) (by decide) (by decide) (by decide) (by decide) (by decide)) 0) (tg gk (by decide) (by decide) (by decide) (by decide) (by decide) (by decide) (by decide)) (tg gc (by decide) (by decide) (by decide) (by decide) (by decide) (by decide) (by decide)) (fun a k ha hn => congrFun (fl a (hn p q hN) (fun e => by rw [e, gtp] at ha; exact absurd ha (by decide))) k)
    exact ⟨ns, nk, hR, h2, fun _ _ => h1, (fun _ _ _ _ _ _ _ e => by cases e)⟩
  · obtain ⟨⟨o1, o2, o3, o4, o5, o6, o7, o8, o9, fo⟩, -⟩ := hO _ _ _ _ _ _ _ rfl
    obtain ⟨ns, nk, ⟨r1, r2, r3, r4⟩, h1, h2⟩ := h
    have ne2 : w 74 ≠ w 29 := fun e => absurd (hA.1 _ _ (by decide) (by decide) e) (by decide)
    have tg : ∀ {a t u : Nat}, G a = (t, u) → t ≠ 1004 → t ≠ 26100 → t ≠ 28100 → t ≠ 29100 → t ≠ 30100 → t ≠ 1011 → t ≠ 1008 → t ≠ 1002 → t ≠ 16100 → t ≠ 17100 → t ≠ 18100 → t ≠ 1006 → t ≠ 1010 → t ≠ 1009 → M'.1 a = M.1 a := fun ga n1 n4 n6 n7 n8 n9 n10 m1 m2 m3 m4 m5 m6 m7 => fo _ (hn_ne ga gx n9) (hn_ne ga gtp n10) (hn_ne ga gq n1) (hn_ne ga gqw n7) (hn_ne ga goa n8) (fun t ht => hn_ne ga (gqt t ht) n4) (fun t ht => hn_ne ga (gqb t ht) n6) (hn_ne ga gdl m1) (hn_ne ga gfa m2) (hn_ne ga gsa m3) (hn_ne ga gca m4) (hn_ne ga gse m5) (hn_ne ga gye m6) (hn_ne ga gud m7)
    have ek : M'.1 kp = M.1 kp := tg gk (by decide) (by decide) (by decide) (by decide) (by decide) (by decide) (by decide) (by decide) (by decide) (by decide) (by decide) (by decide) (by decide) (by decide)
    have ec : M'.1 kc = M.1 kc := tg gc (by decide) (by decide) (by decide) (by decide) (by decide) (by decide) (by decide) (by decide) (by decide) (by decide) (by decide) (by decide) (by decide) (by decide)
    have rm : ∀ j, M'.2.2 m j = M.2.2 m j := fun j => o8 m j (fun e => hn_ne gm gtp (by decide) e.1) (fun e => hn_ne gm g29 (by decide) e.1) (fun e => hn_ne gm g74 (by decide) e.1)
    have lo : ∀ a k, (G a).1 % 1000 = 103 → a ≠ w (q + 1) → M'.2.1 a k = M.2.1 a k := fun a k ha hn => congrFun (o9 a hn (fun e => by rw [e, gtp] at ha; exact absurd ha (by decide))) k
    refine ⟨ns, nk, ⟨(rm 9).trans r1, r2, (rm 60).trans r3, r4⟩, fun k hk h0 => ?_, (fun _ e => by cases e), fun PL2 WA2 OA2 TO2 BI2 nm2 r2 e p' q' hn j hj => ?_⟩
    · rw [ec] at h0; rw [ek]
      exact (h2 k hk h0).cg (fun j _ => lo _ j (nz_na hA (lq_ip_in k)) (ni k)) (fun j _ => lo _ _ (by rw [r4]; rfl) (hn_ne r4 gqn (by decide))) (Int.le_refl _)
    · cases e
      have e1 := Option.some.inj (hn.1.symm.trans o6)
      have hp' := lq_P4 hn.pin.1
      have : p' = q := hA.1 _ _ (by omega) (by omega) e1
      rw [this]; exact o5 j hj
theorem nz_p.pl2 {y : rv_Om} {W : List (Nat × Nat × Nat)} (h : nz_p G M s m kp kc w y) (hA : lq_A G w) (gm : G m = (1012, 0)) (gk : G kp = (70100, 1076)) (gc : G kc = (48102, 2)) (f : ab_frm W G M M') (c : ∀ q ∈ W, q.1 ≠ 70100 ∧ q.1 ≠ 48102 ∧ ¬ (q.1 = 1012 ∧ q.2.1 ≤ 9 ∧ 9 ≤ q.2.2) ∧ ¬ (q.1 = 1012 ∧ q.2.1 ≤ 60 ∧ 60 ≤ q.2.2) ∧ q.1 ≠ 1007) (b8 : M.1 s 0 ≤ 8) (pz : lq_pz M M' s m y) (o2 : ∀ PL WA OA TO BI nm r, y = .inr (PL, WA, OA, TO, BI, nm, r) → ∃ ns, M.2.2 m 9 = some ns ∧ rv_QO s ns PL WA TO BI nm M') : nz G M' s m kp kc w := by
  obtain ⟨ns, nk, ⟨r1, r2, r3, r4⟩, hI, h1, h2⟩ := h
  have r9 := (f m 9 (by rw [gm]; rintro ⟨r, hr, e1, e2, e3⟩; exact (c r hr).2.2.1 ⟨e1, e2, e3⟩)).2
  have r60 := (f m 60 (by rw [gm]; rintro ⟨r, hr, e1, e2, e3⟩; exact (c r hr).2.2.2.1 ⟨e1, e2, e3⟩)).2
  have n1 := (f (w 29) 0 (by rw [hA.2.2.1]; rintro ⟨r, hr, e1, e2, e3⟩; exact (c r hr).2.2.2.2 e1)).2
  have n2 := (f (w 74) 0 (by rw [hA.2.2.2.1]; rintro ⟨r, hr, e1, e2, e3⟩; exact (c r hr).2.2.2.2 e1)).2
  have ek : M'.1 kp = M.1 kp := funext fun k => (f kp k (by rw [gk]; rintro ⟨r, hr, e1, e2, e3⟩; exact (c r hr).1 e1)).1
  have ec : M'.1 kc = M.1 kc := funext fun k => (f kc k (by rw [gc]; rintro ⟨r, hr, e1, e2, e3⟩; exact (c r hr).2.1 e1)).1
  have nm_ : ∀ {a t n : Nat}, G a = (t, n) → t ≠ 1012 → a ≠ m := fun ga h => hn_ne ga gm h
  have gna : ∀ P, P ∈ lq_Ps → G (w (P + 1)) = (24103, 8) := fun P hP => (hA.2.1 P hP).2.1
  rcases y with e | ⟨PL, WA, OA, TO, BI, nm, r⟩
  · obtain ⟨ha, es, -, -, lo⟩ := pz.1 e rfl
    have l1 : ∀ {a t n : Nat} (j : Nat), G a = (t, n) → t ≠ 1012 → (a ≠ ns ∨ j < 8) → M'.2.1 a j = M.2.1 a j := fun j ga ht hj => lo _ j (nm_ ga ht) (fun q => by
      have := Option.some.inj (r1.symm.trans q.1)
      rcases hj with hj | hj
      · exact hj this.symm
      · omega)
    refine ⟨ns, nk, ⟨r9.trans r1, r2, r60.trans r3, r4⟩, fun p q hn => ?_, fun k hk h0 => ?_⟩
    · have hn0 := lq_N.back n1 n2 hn
      obtain ⟨nm, a1, a2⟩ := h1 e rfl p q hn0
      rw [es]
      refine ⟨nm, fun j hj => ?_, fun j hj => ?_⟩
      · rw [l1 j (gna p hn0.pin.1) (by decide) (Or.inr hj)]; exact a1 j hj
      · rw [l1 (0 + j) r2 (by decide) (Or.inr (by omega))]; exact a2 j hj
    · rw [ec] at h0; rw [ek]
      exact (hI k hk h0).cg (fun j hj => l1 j (gna _ (lq_ip_in k)) (by decide) (Or.inr hj)) (fun j _ => l1 _ r4 (by decide) (Or.inl (hn_ne r4 r2 (by decide)))) (Int.le_refl _)
  · obtain ⟨ns', e9, x1, -⟩ := pz.2 _ _ _ _ _ _ _ rfl
    obtain rfl : ns' = ns := Option.some.inj (e9.symm.trans r1)
    obtain ⟨ns2, e92, qo⟩ := o2 _ _ _ _ _ _ _ rfl
    obtain rfl : ns2 = ns' := Option.some.inj (e92.symm.trans r1)
    refine ⟨ns2, nk, ⟨r9.trans r1, r2, r60.trans r3, r4⟩, fun p q hn => ?_, fun k hk h0 => ?_⟩
    · have hn0 := lq_N.back n1 n2 hn
      refine ⟨nm, fun j hj => ?_, fun j hj => ?_⟩
      · rw [x1 _ (nm_ (gna p hn0.pin.1) (by decide)) (hn_ne (gna p hn0.pin.1) r2 (by decide))]; exact h2 _ _ _ _ _ _ _ rfl p q hn0 j hj
      · rw [Nat.zero_add]; exact (qo.2.1 j (by rw [← qo.1.1]; exact hj)).1
    · rw [ec] at h0; rw [ek]
      exact (hI k hk h0).cg (fun j hj => congrFun (x1 _ (nm_ (gna _ (lq_ip_in k)) (by decide)) (hn_ne (gna _ (lq_ip_in k)) r2 (by decide))) j) (fun j _ => congrFun (x1 nk (nm_ r4 (by decide)) (hn_ne r4 r2 (by decide))) _) (Int.le_refl _)
/-- between image of the class and of the reference -/
def nz_i (G : mj_G) (M : mj_M) (s m kp kc : Nat) (w : Nat → Nat) (z1 : Int) : Prop := ∃ ns nk, nz_R G M m ns nk ∧ nz_N M s ns w ∧ (∀ k : Nat, k < 2 → (z1 ≠ (k : Int) → M.1 kc k ≠ 0 → nz_1 M (w (lq_ip k + 1)) nk (8 * k) (M.1 kp (538 * k))) ∧ (z1 = (k : Int) → nz_1 M (w (lq_ip k + 1)) ns 0 (M.1 s 0)))
theorem nz.im1 (h : nz G M s m kp kc w) (hA : lq_A G w) (gx : G x = (1011, 0)) (gm : G m = (1012, 0)) (gs : G s = (51100, 537)) (gk : G kp = (70100, 1076)) (gc : G kc = (48102, 2)) {W : List (Nat × Nat × Nat)} (f : ab_frm W G M M') (c : ∀ q ∈ W, q.1 ≠ 51100 ∧ q.1 ≠ 70100 ∧ q.1 ≠ 1012 ∧ ¬ (q.1 = 1007 ∧ q.2.1 = 0)) (iy : lq_iy G M M' kc w z1) : nz_i G M' s m kp kc w z1 := by
  obtain ⟨ns, nk, ⟨r1, r2, r3, r4⟩, h1, h2⟩ := h
  obtain ⟨p, q, hN, i0, i1⟩ := iy
  have r9 := (f m 9 (by rw [gm]; rintro ⟨r, hr, e1, e2, e3⟩; exact (c r hr).2.2.1 e1)).2
  have r60 := (f m 60 (by rw [gm]; rintro ⟨r, hr, e1, e2, e3⟩; exact (c r hr).2.2.1 e1)).2
  have n1 := (f (w 29) 0 (by rw [hA.2.2.1]; rintro ⟨r, hr, e1, e2, e3⟩; exact (c r hr).2.2.2 ⟨e1, by omega⟩)).2
  have n2 := (f (w 74) 0 (by rw [hA.2.2.2.1]; rintro ⟨r, hr, e1, e2, e3⟩; exact (c r hr).2.2.2 ⟨e1, by omega⟩)).2
  have es : M'.1 s = M.1 s := funext fun k => (f s k (by rw [gs]; rintro ⟨r, hr, e1, e2, e3⟩; exact (c r hr).1 e1)).1
  have ek : M'.1 kp = M.1 kp := funext fun k => (f kp k (by rw [gk]; rintro ⟨r, hr, e1, e2, e3⟩; exact (c r hr).2.1 e1)).1
  have gna : ∀ P, P ∈ lq_Ps → G (w (P + 1)) = (24103, 8) := fun P hP => (hA.2.1 P hP).2.1
  by_cases hz : 0 ≤ z1 ∧ z1 ≤ 1
  · obtain ⟨k0, hk0, e0⟩ : ∃ k : Nat, k < 2 ∧ z1 = (k : Int) := ⟨z1.toNat, by omega, by omega⟩
    obtain ⟨st, M1, e1, ekc, e2, cr1, cr2, -⟩ := i1 k0 hk0 e0
    have l1 : ∀ a j, (G a).1 % 1000 = 103 → a ≠ w (lq_ip k0 + 1) → M'.2.1 a j = M.2.1 a j := fun a j ha hn => by rw [e1]; exact cr2 a j ha hn
    have l2 : ∀ j, j < 8 → M'.2.1 (w (lq_ip k0 + 1)) j = M.2.1 (w (p + 1)) j := fun j hj => by rw [e1]; exact cr1 j hj
    have ec : ∀ k, k ≠ k0 → M'.1 kc k = M.1 kc k := fun k hk => by rw [e1, ← ekc]; exact hn_n (Or.inr hk)
    refine ⟨ns, nk, ⟨r9.trans r1, r2, r60.trans r3, r4⟩, fun p' q' hn => ?_, fun k hk => ⟨fun hz h0 => ?_, fun hz => ?_⟩⟩
    · have hn0 := lq_N.back n1 n2 hn
      rw [es]
      refine (h1 p' q' hn0).cg (fun j _ => l1 _ j (nz_na hA hn0.pin.1) (fun e => ?_)) (fun j _ => l1 _ _ (by rw [r2]; rfl) (hn_ne r2 (gna _ (lq_ip_in k0)) (by decide))) (Int.le_refl _)
      have h4 := lq_P4 hn0.pin.1
      have h5 := lq_P4 (lq_ip_in k0)
      have := hA.1 _ _ (by omega) (by omega) e
      exact hn0.pin.2 k0 (by omega)
    · have hne : k ≠ k0 := fun e => hz (by rw [e]; exact e0)
      rw [ec k hne] at h0
      rw [ek]
      refine (h2 k hk h0).cg (fun j _ => l1 _ j (nz_na hA (lq_ip_in k)) (fun e => ?_)) (fun j _ => l1 _ _ (by rw [r4]; rfl) (hn_ne r4 (gna _ (lq_ip_in k0)) (by decide))) (Int.le_refl _)
      have h4 := lq_P4 (lq_ip_in k)
      have h5 := lq_P4 (lq_ip_in k0)
      have := hA.1 _ _ (by omega) (by omega) e
      exact lq_ip_ne hk hk0 hne (by omega)
    · obtain rfl : k = k0 := by omega
      rw [es]
      exact (h1 p q hN).cg (fun j hj => l2 j hj) (fun j _ => l1 _ _ (by rw [r2]; rfl) (hn_ne r2 (gna _ (lq_ip_in k)) (by decide))) (Int.le_refl _)
  · have e := i0 hz
    subst e
    exact ⟨ns, nk, ⟨r1, r2, r3, r4⟩, h1, fun k hk => ⟨fun _ h0 => h2 k hk h0, fun e => absurd ⟨by omega, by omega⟩ hz⟩⟩
theorem nz_i.im2 {ik : Nat} (h : nz_i G M s m kp kc w z1) (hA : lq_A G w) (gm : G m = (1012, 0)) (gs : G s = (51100, 537)) (gc : G kc = (48102, 2)) {W : List (Nat × Nat × Nat)} (f : ab_frm W G M M') (c : ∀ q ∈ W, q.1 ≠ 51100 ∧ q.1 ≠ 48102 ∧ ¬ (q.1 = 1012 ∧ q.2.1 ≤ 9 ∧ 9 ≤ q.2.2) ∧ ¬ (q.1 = 1012 ∧ q.2.1 ≤ 60 ∧ 60 ≤ q.2.2) ∧ q.1 ≠ 1007) (b8 : M.1 s 0 ≤ 8) (bk : ∀ k : Nat, k < 2 → z1 ≠ (k : Int) → M.1 kc k ≠ 0 → M.1 kp (538 * k) ≤ 8) (mz : ∀ ns nk, M.2.2 m 9 = some ns → M.2.2 m 60 = some nk → rq_mz M M' m kp nk ns z1) (o : (¬ (0 ≤ z1 ∧ z1 ≤ 1) ∧ (∀ q, M'.1 ik q = M.1 ik q) ∧ M'.1 kp = M.1 kp) ∨ (∃ k : Nat, k ≤ 1 ∧ z1 = (k : Int) ∧ M'.1 ik k = 1 ∧ (∀ q, q ≠ k → M'.1 ik q = M.1 ik q) ∧ (∀ p, p < 537 → M'.1 kp (538 * k + p) = M.1 s p) ∧ (∀ q, q < 538 * k ∨ 538 * k + 538 ≤ q → M'.1 kp q = M.1 kp q))) : nz G M' s m kp kc w := by
  obtain ⟨ns, nk, ⟨r1, r2, r3, r4⟩, h1, h2⟩ := h
  have mz := mz ns nk r1 r3
  have r9 := (f m 9 (by rw [gm]; rintro ⟨r, hr, e1, e2, e3⟩; exact (c r hr).2.2.1 ⟨e1, e2, e3⟩)).2
  have r60 := (f m 60 (by rw [gm]; rintro ⟨r, hr, e1, e2, e3⟩; exact (c r hr).2.2.2.1 ⟨e1, e2, e3⟩)).2
  have n1 := (f (w 29) 0 (by rw [hA.2.2.1]; rintro ⟨r, hr, e1, e2, e3⟩; exact (c r hr).2.2.2.2 e1)).2
  have n2 := (f (w 74) 0 (by rw [hA.2.2.2.1]; rintro ⟨r, hr, e1, e2, e3⟩; exact (c r hr).2.2.2.2 e1)).2
  have es : M'.1 s = M.1 s := funext fun k => (f s k (by rw [gs]; rintro ⟨r, hr, e1, e2, e3⟩; exact (c r hr).1 e1)).1
  have ec : M'.1 kc = M.1 kc := funext fun k => (f kc k (by rw [gc]; rintro ⟨r, hr, e1, e2, e3⟩; exact (c r hr).2.1 e1)).1
  have gna : ∀ P, P ∈ lq_Ps → G (w (P + 1)) = (24103, 8) := fun P hP => (hA.2.1 P hP).2.1
  rcases o with ⟨hz, -, ek⟩ | ⟨k0, hk0, e0, -, -, j5, j6⟩
  · obtain ⟨l0, -⟩ := mz.1 hz
    refine ⟨ns, nk, ⟨r9.trans r1, r2, r60.trans r3, r4⟩, fun p q hn => ?_, fun k hk h0 => ?_⟩
    · rw [es]
      exact (h1 p q (lq_N.back n1 n2 hn)).cg (fun j _ => by rw [l0]) (fun j _ => by rw [l0]) (Int.le_refl _)
    · rw [ec] at h0; rw [ek]
      exact ((h2 k hk).1 (by omega) h0).cg (fun j _ => by rw [l0]) (fun j _ => by rw [l0]) (Int.le_refl _)
  · obtain ⟨l1, l2, -⟩ := mz.2 k0 (by omega) e0
    have lp : ∀ P, P ∈ lq_Ps → ∀ j, M'.2.1 (w (P + 1)) j = M.2.1 (w (P + 1)) j := fun P hP j => l2 _ j (fun q => hn_ne (gna P hP) r4 (by decide) q.1)
    have ls : ∀ j, M'.2.1 ns j = M.2.1 ns j := fun j => l2 _ j (fun q => hn_ne r2 r4 (by decide) q.1)
    refine ⟨ns, nk, ⟨r9.trans r1, r2, r60.trans r3, r4⟩, fun p q hn => ?_, fun k hk h0 => ?_⟩
    · have hn0 := lq_N.back n1 n2 hn
      rw [es]
      exact (h1 p q hn0).cg (fun j _ => lp p hn0.pin.1 j) (fun j _ => ls _) (Int.le_refl _)
    · rw [ec] at h0
      by_cases e : k = k0
      · subst e
        have ek : M'.1 kp (538 * k) = M.1 s 0 := j5 0 (by decide)
        rw [ek]
        exact ((h2 k hk).2 e0).cg (fun j _ => lp _ (lq_ip_in k) j) (fun j hj => by rw [Nat.zero_add]; exact l1 j (by omega)) (Int.le_refl _)
      · rw [j6 (538 * k) (by omega)]
        refine ((h2 k hk).1 (by omega) h0).cg (fun j _ => lp _ (lq_ip_in k) j) (fun j hj => l2 _ _ (fun q => ?_)) (Int.le_refl _)
        have := bk k hk (by omega) h0
        omega
/-- between restore of the class and of the reference -/
def nz_r (G : mj_G) (M : mj_M) (s m kp kc : Nat) (w : Nat → Nat) (z1 : Int) : Prop := ∃ ns nk, nz_R G M m ns nk ∧ nz_I M kp kc nk w ∧ ((∀ k : Nat, k < 2 → z1 = (k : Int) → M.1 kc k = 0) → nz_N M s ns w) ∧ (∀ k : Nat, k < 2 → z1 = (k : Int) → M.1 kc k ≠ 0 → ∀ p q, lq_N M w p q → nz_1 M (w (p + 1)) nk (8 * k) (M.1 kp (538 * k)))
theorem nz.re1 (h : nz G M s m kp kc w) (hA : lq_A G w) (gm : G m = (1012, 0)) (gs : G s = (51100, 537)) (gk : G kp = (70100, 1076)) (gc : G kc = (48102, 2)) {W : List (Nat × Nat × Nat)} (f : ab_frm W G M M') (c : ∀ q ∈ W, q.1 ≠ 51100 ∧ q.1 ≠ 70100 ∧ q.1 ≠ 48102 ∧ q.1 ≠ 1012 ∧ ¬ (q.1 = 1007 ∧ q.2.1 = 0)) (ry : lq_ry G M M' kc ud w z1) : nz_r G M' s m kp kc w z1 := by
  obtain ⟨ns, nk, ⟨r1, r2, r3, r4⟩, h1, h2⟩ := h
  obtain ⟨p, q, hN, i0, i1⟩ := ry
  have r9 := (f m 9 (by rw [gm]; rintro ⟨r, hr, e1, e2, e3⟩; exact (c r hr).2.2.2.1 e1)).2
  have r60 := (f m 60 (by rw [gm]; rintro ⟨r, hr, e1, e2, e3⟩; exact (c r hr).2.2.2.1 e1)).2
  have n1 := (f (w 29) 0 (by rw [hA.2.2.1]; rintro ⟨r, hr, e1, e2, e3⟩; exact (c r hr).2.2.2.2 ⟨e1, by omega⟩)).2
  have n2 := (f (w 74) 0 (by rw [hA.2.2.2.1]; rintro ⟨r, hr, e1, e2, e3⟩; exact (c r hr).2.2.2.2 ⟨e1, by omega⟩)).2
  have es : M'.1 s = M.1 s := funext fun k => (f s k (by rw [gs]; rintro ⟨r, hr, e1, e2, e3⟩; exact (c r hr).1 e1)).1
  have ek : M'.1 kp = M.1 kp := funext fun k => (f kp k (by rw [gk]; rintro ⟨r, hr, e1, e2, e3⟩; exact (c r hr).2.1 e1)).1
  have ec : M'.1 kc = M.1 kc := funext fun k => (f kc k (by rw [gc]; rintro ⟨r, hr, e1, e2, e3⟩; exact (c r hr).2.2.1 e1)).1
  have gna : ∀ P, P ∈ lq_Ps → G (w (P + 1)) = (24103, 8) := fun P hP => (hA.2.1 P hP).2.1
  by_cases hz : ∀ k : Nat, k < 2 → z1 = (k : Int) → M.1 kc k = 0
  · have e := i0 hz
    subst e
    exact ⟨ns, nk, ⟨r1, r2, r3, r4⟩, h2, fun _ => h1, fun k hk e h0 => absurd (hz k hk e) h0⟩
  · obtain ⟨k0, hk0, e0, hc0⟩ : ∃ k : Nat, k < 2 ∧ z1 = (k : Int) ∧ M.1 kc k ≠ 0 := Classical.byContradiction (fun n => hz (fun k hk e => Classical.byContradiction (fun h => n ⟨k, hk, e, h⟩)))
    obtain ⟨st, M1, e1, e2, cr1, cr2, -⟩ := i1 k0 hk0 e0 hc0
    have l1 : ∀ a j, (G a).1 % 1000 = 103 → a ≠ w (p + 1) → M'.2.1 a j = M.2.1 a j := fun a j ha hn => by rw [e1]; exact cr2 a j ha hn
    have l2 : ∀ j, j < 8 → M'.2.1 (w (p + 1)) j = M.2.1 (w (lq_ip k0 + 1)) j := fun j hj => by rw [e1]; exact cr1 j hj
    have gp := gna p hN.pin.1
    have hp4 := lq_P4 hN.pin.1
    refine ⟨ns, nk, ⟨r9.trans r1, r2, r60.trans r3, r4⟩, fun k hk h0 => ?_, fun h => ?_, fun k hk e _ p' q' hn => ?_⟩
    · rw [ec] at h0; rw [ek]
      refine (h2 k hk h0).cg (fun j _ => l1 _ j (nz_na hA (lq_ip_in k)) (fun e => ?_)) (fun j _ => l1 _ _ (by rw [r4]; rfl) (hn_ne r4 gp (by decide))) (Int.le_refl _)
      have h4 := lq_P4 (lq_ip_in k)
      have := hA.1 _ _ (by omega) (by omega) e
      exact hN.pin.2 k (by omega)
    · have := h k0 hk0 e0
      rw [ec] at this
      exact absurd this hc0
    · obtain rfl : k = k0 := by omega
      have hn0 := lq_N.back n1 n2 hn
      have a := Option.some.inj (hn0.1.symm.trans hN.1)
      have hp' := lq_P4 hn0.pin.1
      have a := hA.1 _ _ (by omega) (by omega) a
      subst a
      rw [ek]
      exact (h2 k hk hc0).cg (fun j hj => l2 j hj) (fun j _ => l1 _ _ (by rw [r4]; rfl) (hn_ne r4 gp (by decide))) (Int.le_refl _)
theorem nz_r.re2 {ik : Nat} (h : nz_r G M s m kp kc w z1) (hA : lq_A G w) (gm : G m = (1012, 0)) (gk : G kp = (70100, 1076)) (gc : G kc = (48102, 2)) {W : List (Nat × Nat × Nat)} (f : ab_frm W G M M') (c : ∀ q ∈ W, q.1 ≠ 70100 ∧ q.1 ≠ 48102 ∧ ¬ (q.1 = 1012 ∧ q.2.1 ≤ 9 ∧ 9 ≤ q.2.2) ∧ ¬ (q.1 = 1012 ∧ q.2.1 ≤ 60 ∧ 60 ≤ q.2.2) ∧ q.1 ≠ 1007) (mk : ∀ k, k < 2 → M.1 kc k = M.1 ik k) (bk : ∀ k : Nat, k < 2 → M.1 kc k ≠ 0 → M.1 kp (538 * k) ≤ 8) (rz : ∀ ns nk, M.2.2 m 9 = some ns → M.2.2 m 60 = some nk → rq_rz M M' m kp nk ns ik z1) (o : ((¬ (0 ≤ z1 ∧ z1 ≤ 1) ∨ M.1 ik z1.toNat = 0) ∧ M'.1 s = M.1 s) ∨ (∃ k : Nat, k ≤ 1 ∧ z1 = (k : Int) ∧ M.1 ik k ≠ 0 ∧ (∀ p, p < 537 → M'.1 s p = M.1 kp (538 * k + p)))) : nz G M' s m kp kc w := by
  obtain ⟨ns, nk, ⟨r1, r2, r3, r4⟩, hI, h1, h2⟩ := h
  have rz := rz ns nk r1 r3
  have r9 := (f m 9 (by rw [gm]; rintro ⟨r, hr, e1, e2, e3⟩; exact (c r hr).2.2.1 ⟨e1, e2, e3⟩)).2
  have r60 := (f m 60 (by rw [gm]; rintro ⟨r, hr, e1, e2, e3⟩; exact (c r hr).2.2.2.1 ⟨e1, e2, e3⟩)).2
  have n1 := (f (w 29) 0 (by rw [hA.2.2.1]; rintro ⟨r, hr, e1, e2, e3⟩; exact (c r hr).2.2.2.2 e1)).2
  have n2 := (f (w 74) 0 (by rw [hA.2.2.2.1]; rintro ⟨r, hr, e1, e2, e3⟩; exact (c r hr).2.2.2.2 e1)).2
  have ek : M'.1 kp = M.1 kp := funext fun k => (f kp k (by rw [gk]; rintro ⟨r, hr, e1, e2, e3⟩; exact (c r hr).1 e1)).1
  have ec : M'.1 kc = M.1 kc := funext fun k => (f kc k (by rw [gc]; rintro ⟨r, hr, e1, e2, e3⟩; exact (c r hr).2.1 e1)).1
  have gna : ∀ P, P ∈ lq_Ps → G (w (P + 1)) = (24103, 8) := fun P hP => (hA.2.1 P hP).2.1
  rcases o with ⟨hz, es⟩ | ⟨k0, hk0, e0, hc0, j4⟩
  · obtain ⟨l0, -⟩ := rz.1 hz
    have hz' : ∀ k : Nat, k < 2 → z1 = (k : Int) → M.1 kc k = 0 := fun k hk e => by
      rcases hz with hz | hz
      · exact absurd ⟨by omega, by omega⟩ hz
      · rw [e] at hz; rw [mk k hk]; exact hz
    refine ⟨ns, nk, ⟨r9.trans r1, r2, r60.trans r3, r4⟩, fun p q hn => ?_, fun k hk h0 => ?_⟩
    · rw [es]
      exact (h1 hz' p q (lq_N.back n1 n2 hn)).cg (fun j _ => by rw [l0]) (fun j _ => by rw [l0]) (Int.le_refl _)
    · rw [ec] at h0; rw [ek]
      exact (hI k hk h0).cg (fun j _ => by rw [l0]) (fun j _ => by rw [l0]) (Int.le_refl _)
  · have hk2 : k0 < 2 := by omega
    obtain ⟨l1, l2, -⟩ := rz.2 k0 hk2 e0 hc0
    have hcc : M.1 kc k0 ≠ 0 := by rw [mk k0 hk2]; exact hc0
    have lp : ∀ P, P ∈ lq_Ps → ∀ j, M'.2.1 (w (P + 1)) j = M.2.1 (w (P + 1)) j := fun P hP j => l2 _ j (fun q => hn_ne (gna P hP) r2 (by decide) q.1)
    have lk : ∀ j, M'.2.1 nk j = M.2.1 nk j := fun j => l2 _ j (fun q => hn_ne r4 r2 (by decide) q.1)
    have b := bk k0 hk2 hcc
    refine ⟨ns, nk, ⟨r9.trans r1, r2, r60.trans r3, r4⟩, fun p q hn => ?_, fun k hk h0 => ?_⟩
    · have hn0 := lq_N.back n1 n2 hn
      have es : M'.1 s 0 = M.1 kp (538 * k0) := j4 0 (by decide)
      rw [es]
      exact (h2 k0 hk2 e0 hcc p q hn0).cg (fun j _ => lp p hn0.pin.1 j) (fun j hj => by rw [Nat.zero_add]; exact l1 j (by omega)) (Int.le_refl _)
    · rw [ec] at h0; rw [ek]
      exact (hI k hk h0).cg (fun j _ => lp _ (lq_ip_in k) j) (fun j _ => lk _) (Int.le_refl _)
theorem nz.wo {W : List (Nat × Nat × Nat)} (h : nz G M s m kp kc w) (hA : lq_A G w) (gm : G m = (1012, 0)) (gs : G s = (51100, 537)) (gk : G kp = (70100, 1076)) (gc : G kc = (48102, 2)) (f : ab_frm W G M M') (c : nz_c W) (wo : ∃ p q, lq_N M w p q ∧ lq_N M' w p q ∧ ∀ a k, (G a).1 % 1000 = 103 → a ≠ w (q + 1) → M'.2.1 a k = M.2.1 a k) : nz G M' s m kp kc w :=
  h.cg hA (f m 9 (by rw [gm]; rintro ⟨r, hr, e1, e2, e3⟩; exact (c r hr).2.2.2.1 ⟨e1, e2, e3⟩)).2 (f m 60 (by rw [gm]; rintro ⟨r, hr, e1, e2, e3⟩; exact (c r hr).2.2.2.2.1 ⟨e1, e2, e3⟩)).2 (f _ 0 (by rw [hA.2.2.1]; rintro ⟨r, hr, e1, e2, e3⟩; exact (c r hr).2.2.2.2.2 ⟨e1, by omega⟩)).2 (f _ 0 (by rw [hA.2.2.2.1]; rintro ⟨r, hr, e1, e2, e3⟩; exact (c r hr).2.2.2.2.2 ⟨e1, by omega⟩)).2 (f s 0 (by rw [gs]; rintro ⟨r, hr, e1, e2, e3⟩; exact (c r hr).1 ⟨e1, by omega⟩)).1 (funext fun k => (f kp k (by rw [gk]; rintro ⟨r, hr, e1, e2, e3⟩; exact (c r hr).2.1 e1)).1) (funext fun k => (f kc k (by rw [gc]; rintro ⟨r, hr, e1, e2, e3⟩; exact (c r hr).2.2.1 e1)).1) (fun a k ha hn => by
    obtain ⟨p, q, hN, -, l⟩ := wo
    exact l a k ha (hn p q hN))
end NZ
end
section
/-! ===== contracts of both sides, as the invariant sees them ===== -/
theorem lq_ct_ge (f : Nat → Int) : ∀ n, 0 ≤ lq_ct f n
  | 0 => Int.le_refl 0
  | n + 1 => by
    have := lq_ct_ge f n
    unfold lq_ct
    split <;> omega
abbrev rv_Od : Type := (Int × Nat) ⊕ ((Nat → Int) × Nat)
def rv_zd (f : Nat → Int) (n : Nat) (nm : Nat → List Int) (c0 : Int) (y : rv_Od) : Prop := ∀ P : rv_Od → Prop, P y → sp_deals (rv_T (fun k => rv_u8 (f k)) n 400) nm c0 (fun f a => P (.inl (f, a))) (fun R r => P (.inr (R, r))) (n + 1) (fun _ => 0) 0 0
def rv_vd (y : rv_Od) : Int := Sum.elim (fun e => rv_vf e.2) (fun e => ((e.2 : Nat) : Int)) y
theorem rv_vd_l (e : Int × Nat) : rv_vd (.inl e) = rv_vf e.2 := by unfold rv_vd; rw [Sum.elim_inl]
theorem rv_vd_r (e : (Nat → Int) × Nat) : rv_vd (.inr e) = ((e.2 : Nat) : Int) := by unfold rv_vd; rw [Sum.elim_inr]
section CT
variable {G : mj_G} {M M' : mj_M} {w : Nat → Nat} {x m s kp kc tp bc bt n : Nat}
/-- all that the class's contracts tells, raw -/
def lq_cy (G : mj_G) (M M' : mj_M) (x tp s : Nat) (w : Nat → Nat) (y : rv_Od) : Prop := ∃ p q dn dl fa sa ca oa, lq_N M w p q ∧ G oa = (30100, 8) ∧ rc_X G M x tp (w p) (w 74) (w 29) dn dl fa sa ca ∧ rc_fr x tp dl fa sa ca (fun t => w (p + 3 + t)) (fun t => w (p + 12 + t)) (w p) (w (p + 20)) oa M M' ∧ rc_fq tp (w 29) (w 74) M M' ∧ (∀ e, y = .inl e → rc_F (w 29) (w 74) dn dl M') ∧ (∀ R r, y = .inr (R, r) → rv_db (M.1 s 0) R ∧ rc_O (w 29) (w 74) dn dl fa sa ca R r M')
def lq_cn (M : mj_M) (m s : Nat) (nm : Nat → List Int) : Prop := ∀ ns, M.2.2 m 9 = some ns → ∀ k : Nat, (k : Int) < M.1 s 0 → M.2.1 ns k = rv_8 (nm k) ∧ rv_wo (nm k)
set_option maxRecDepth 100000 in
theorem lq_ct1 (inv : ab_Inv G M) (gx : G x = (1011, 0)) (gtp : G tp = (1008, 0)) (x0 : M.2.2 x 0 = some tp) (h6 : lp_6 G M tp m bc bt) (hJ : lq_J G M x s kp kc w) (hr : rv_r6 (M.1 s) 0) (hnz : nz G M s m kp kc w) (hn : n ≤ 940) (hs : M.1 tp 1 = (n : Int)) : mj_R mj_tab 40 117 [.inr (.inr (some x))] G M (fun r G' M' => ∃ nm y, r = some (.inl (rv_vd y)) ∧ G' = G ∧ rv_zd (M.1 bc) n nm (M.1 s 0) y ∧ lq_cn M m s nm ∧ lq_cy G M M' x tp s w y) := by
  obtain ⟨gbc, gbt, t0, m1, wl, l5⟩ := h6
  obtain ⟨hA, hB, p, q, hN, h1, h2⟩ := hJ
  have hp := hN.pin.1
  have g29 := hA.2.2.1
  have g74 := hA.2.2.2.1
  obtain ⟨gpl, gna, gta, gba, gwa, gtr, gbr, itr, ibr, p0, p1, p2, p3, rt, rb⟩ := lq_K hA hB hp
  obtain ⟨dl, w1, gdl⟩ := hn_rf (k := 1) (q := (1002, 0)) inv g74 rfl (by decide) (by decide) (by decide) (fun e => absurd e (by decide))
  obtain ⟨dn, w2, gdn⟩ := hn_rf (k := 1) (q := (1002, 0)) inv g29 rfl (by decide) (by decide) (by decide) (fun e => absurd e (by decide))
  obtain ⟨fa, d0, gfa⟩ := hn_rf (k := 0) (q := (16100, 12)) inv gdl rfl (by decide) (by decide) (by decide) (fun e => absurd e (by decide))
  obtain ⟨sa, d1, gsa⟩ := hn_rf (k := 1) (q := (17100, 12)) inv gdl rfl (by decide) (by decide) (by decide) (fun e => absurd e (by decide))
  obtain ⟨ca, d2, gca⟩ := hn_rf (k := 2) (q := (18100, 12)) inv gdl rfl (by decide) (by decide) (by decide) (fun e => absurd e (by decide))
  obtain ⟨oa, p10, goa⟩ := hn_rf (k := 10) (q := (30100, 8)) inv gpl rfl (by decide) (by decide) (by decide) (fun e => absurd e (by decide))
  obtain ⟨ns, nk, ⟨r1, r2, -, -⟩, hNN, -⟩ := hnz
  obtain ⟨nm, a1, a2⟩ := hNN p q hN
  have e0 : M.1 (w p) 4 = M.1 s 0 := h1.1.1.symm
  have hAT : rv_AT G M (fun k => rv_u8 (M.1 bc k)) n 400 tp bc (w p) (w (p + 1)) (w (p + 2)) (w (p + 11)) (w (p + 20)) oa (fun t => w (p + 3 + t)) (fun t => w (p + 12 + t)) (rv_T (fun k => rv_u8 (M.1 bc k)) n 400) :=
    ⟨⟨gtp, gbc, gpl, gna, gta, gba, gwa, goa, gtr, gbr, itr, ibr, t0, p0, p1, p2, p3, p10, rt, rb, fun _ => rfl, wl, hn, by decide, inv.2.2.2.1⟩, rfl⟩
  have hX : rc_X G M x tp (w p) (w 74) (w 29) dn dl fa sa ca := ⟨⟨gx, g74, g29, ⟨gdl, gfa, gsa, gca, d0, d1, d2⟩, fun e => absurd (hA.1 _ _ (by decide) (by decide) e) (by decide)⟩, x0, hB.2.1, hB.2.2.1, w1, w2, hN.1⟩
  have hb : rv_pb (M.1 (w p)) := ⟨by rw [e0]; exact hr.1.1.1, by rw [e0]; exact hr.1.1.2, by rw [h1.2.2]; exact lq_ct_ge _ _, by rw [h1.2.2]; exact hr.2.2⟩
  obtain ⟨y, hy⟩ := dg_deals (T := rv_T (fun k => rv_u8 (M.1 bc k)) n 400) (nm := nm) (c0 := M.1 s 0) (n + 1) (fun _ => 0) 0 0
  have hcn : lq_cn M m s nm := fun ns' e k hk => by
    obtain rfl : ns' = ns := Option.some.inj (e.symm.trans r1)
    have hk8 : k < 8 := by have := hr.1.1.2; omega
    exact ⟨by have := a2 k hk; rwa [Nat.zero_add] at this, (a1 k hk8).2⟩
  refine r_X11_contracts (d := 31) hAT hX hs a1 hb ?_
  rw [e0]
  have key0 : (∀ f a, y = .inl (f, a) → ∀ M', rc_F (w 29) (w 74) dn dl M' → rc_fr x tp dl fa sa ca (fun t => w (p + 3 + t)) (fun t => w (p + 12 + t)) (w p) (w (p + 20)) oa M M' → rc_fq tp (w 29) (w 74) M M' → ∃ nm y, (some (.inl (rv_vf a)) : Option mj_V) = some (.inl (rv_vd y)) ∧ G = G ∧ rv_zd (M.1 bc) n nm (M.1 s 0) y ∧ lq_cn M m s nm ∧ lq_cy G M M' x tp s w y) ∧ (∀ R r, y = .inr (R, r) → rv_db (M.1 s 0) R → ∀ M', rc_O (w 29) (w 74) dn dl fa sa ca R r M' → rc_fr x tp dl fa sa ca (fun t => w (p + 3 + t)) (fun t => w (p + 12 + t)) (w p) (w (p + 20)) oa M M' → rc_fq tp (w 29) (w 74) M M' → ∃ nm y, (some (.inl ((r : Nat) : Int)) : Option mj_V) = some (.inl (rv_vd y)) ∧ G = G ∧ rv_zd (M.1 bc) n nm (M.1 s 0) y ∧ lq_cn M m s nm ∧ lq_cy G M M' x tp s w y) := by
    refine ⟨fun f a ey M' hF fr fq => ?_, fun R r ey hdb M' hO fr fq => ?_⟩
    · refine ⟨nm, y, by rw [ey, rv_vd_l], rfl, hy, hcn, p, q, dn, dl, fa, sa, ca, oa, hN, goa, hX, fr, fq, fun _ _ => hF, fun R r e => ?_⟩
      rw [ey] at e; cases e
    · refine ⟨nm, y, by rw [ey, rv_vd_r], rfl, hy, hcn, p, q, dn, dl, fa, sa, ca, oa, hN, goa, hX, fr, fq, fun e h => ?_, fun R2 r2 e => ?_⟩
      · rw [ey] at h; cases h
      · rw [ey] at e; cases e; exact ⟨hdb, hO⟩
  exact sp_deals.mono (fun f a h => h.1 f a rfl) (fun R r h => h.2 R r rfl) _ _ _ _ (hy (fun o => (∀ f a, o = .inl (f, a) → ∀ M', rc_F (w 29) (w 74) dn dl M' → rc_fr x tp dl fa sa ca (fun t => w (p + 3 + t)) (fun t => w (p + 12 + t)) (w p) (w (p + 20)) oa M M' → rc_fq tp (w 29) (w 74) M M' → ∃ nm y, (some (.inl (rv_vf a)) : Option mj_V) = some (.inl (rv_vd y)) ∧ G = G ∧ rv_zd (M.1 bc) n nm (M.1 s 0) y ∧ lq_cn M m s nm ∧ lq_cy G M M' x tp s w y) ∧ (∀ R r, o = .inr (R, r) → rv_db (M.1 s 0) R → ∀ M', rc_O (w 29) (w 74) dn dl fa sa ca R r M' → rc_fr x tp dl fa sa ca (fun t => w (p + 3 + t)) (fun t => w (p + 12 + t)) (w p) (w (p + 20)) oa M M' → rc_fq tp (w 29) (w 74) M M' → ∃ nm y, (some (.inl ((r : Nat) : Int)) : Option mj_V) = some (.inl (rv_vd y)) ∧ G = G ∧ rv_zd (M.1 bc) n nm (M.1 s 0) y ∧ lq_cn M m s nm ∧ lq_cy G M M' x tp s w y)) key0)
theorem lq_ct2 {f : Nat → Int} {nm : Nat → List Int} {y : rv_Od} (hV : lw_V G M x m tp s kp) (gbt : G bt = (50101, 940)) (m1 : M.2.2 m 1 = some bt) (hf : M.1 bt = f) (b0 : 0 ≤ M.1 s 0 ∧ M.1 s 0 ≤ 8) (hcn : lq_cn M m s nm) (hn : n ≤ 940) (hs : M.1 m 2 = (n : Int)) (hz : rv_zd f n nm (M.1 s 0) y) : mj_R mj_tab 40 177 [.inr (.inr (some m))] G M (fun r _ M' => r = some (.inl (rv_vd y)) ∧ (∀ e, y = .inl e → M'.1 s = M.1 s) ∧ (∀ R r, y = .inr (R, r) → rq_O s R r M M')) := by
  obtain ⟨inv, ⟨gx, gm, gtp, gs, -⟩, ⟨x0, m6, -⟩, -⟩ := hV
  obtain ⟨rd, h8, grd⟩ := hn_rf (k := 8) (q := (53100, 135)) inv gm rfl (by decide) (by decide) (by decide) (fun e => absurd e (by decide))
  obtain ⟨ns, h9, gns⟩ := hn_rf (k := 9) (q := (54103, 16)) inv gm rfl (by decide) (by decide) (by decide) (fun e => absurd e (by decide))
  obtain ⟨rs, h10, grs⟩ := hn_rf (k := 10) (q := (55103, 24)) inv gm rfl (by decide) (by decide) (by decide) (fun e => absurd e (by decide))
  refine r_X12_contracts2 (d := 34) (B := fun k => rv_u8 (f k)) gm gbt gns grs m1 h9 h10 (fun k => by rw [hf]) (fun k hk => (inv.2.2.2.2 rs k (by rw [grs]) hk).trans (ab_rsv8 k hk)) hn rfl gs grd m6 h8 hs b0.1 b0.2 rfl (hcn ns h9) ?_
  have key0 : (∀ f a, y = .inl (f, a) → ∀ M', M'.1 s = M.1 s → (some (.inl (rv_vf a)) : Option mj_V) = some (.inl (rv_vd y)) ∧ (∀ e, y = .inl e → M'.1 s = M.1 s) ∧ (∀ R r, y = .inr (R, r) → rq_O s R r M M')) ∧ (∀ R r, y = .inr (R, r) → rv_db (M.1 s 0) R → ∀ M', rq_O s R r M M' → (some (.inl ((r : Nat) : Int)) : Option mj_V) = some (.inl (rv_vd y)) ∧ (∀ e, y = .inl e → M'.1 s = M.1 s) ∧ (∀ R r, y = .inr (R, r) → rq_O s R r M M')) := by
    refine ⟨fun f a ey M' es => ?_, fun R r ey hdb M' hO => ?_⟩
    · refine ⟨by rw [ey, rv_vd_l], fun _ _ => es, fun R r e => ?_⟩
      rw [ey] at e; cases e
    · refine ⟨by rw [ey, rv_vd_r], fun e h => ?_, fun R2 r2 e => ?_⟩
      · rw [ey] at h; cases h
      · rw [ey] at e; cases e; exact hO
  exact sp_deals.mono (fun f a h => h.1 f a rfl) (fun R r h => h.2 R r rfl) _ _ _ _ (hz (fun o => (∀ f a, o = .inl (f, a) → ∀ M', M'.1 s = M.1 s → (some (.inl (rv_vf a)) : Option mj_V) = some (.inl (rv_vd y)) ∧ (∀ e, y = .inl e → M'.1 s = M.1 s) ∧ (∀ R r, y = .inr (R, r) → rq_O s R r M M')) ∧ (∀ R r, o = .inr (R, r) → rv_db (M.1 s 0) R → ∀ M', rq_O s R r M M' → (some (.inl ((r : Nat) : Int)) : Option mj_V) = some (.inl (rv_vd y)) ∧ (∀ e, y = .inl e → M'.1 s = M.1 s) ∧ (∀ R r, y = .inr (R, r) → rq_O s R r M M'))) key0)
end CT
end
section
/-! ===== the invariant with names; calls told twice, with longs ===== -/
theorem lv_C.an {y : Nat} {av : List mj_V} {G : mj_G} {M : mj_M} {P P' : Int → mj_M → Prop} (hk : st_in an_St y = true) (h1 : lv_C y av G M P) (h2 : lv_C y av G M P') : lv_C y av G M (fun z M' => P z M' ∧ P' z M') := fun Q hQ =>
  sn_and hk (h1 (fun r G' M' => ∃ z, r = some (.inl z) ∧ G' = G ∧ P z M') (fun z M' p => ⟨z, rfl, rfl, p⟩)) (h2 (fun r G' M' => ∃ z, r = some (.inl z) ∧ G' = G ∧ P' z M') (fun z M' p => ⟨z, rfl, rfl, p⟩)) (fun r G' M' g1 g2 => by
    obtain ⟨z, e1, rfl, p1⟩ := g1
    obtain ⟨z2, e2, -, p2⟩ := g2
    obtain rfl : z2 = z := Sum.inl.inj (Option.some.inj (e2.symm.trans e1))
    rw [e1]; exact hQ _ M' ⟨p1, p2⟩)
theorem lv_C.im {y : Nat} {av : List mj_V} {G : mj_G} {M : mj_M} {P P' : Int → mj_M → Prop} (h1 : lv_C y av G M P) (h : ∀ z M', P z M' → P' z M') : lv_C y av G M P' := fun Q hQ => h1 Q (fun z M' p => hQ z M' (h z M' p))
theorem lv_C.vl {y : Nat} {av : List mj_V} {G : mj_G} {M : mj_M} {P : Int → mj_M → Prop} {v : Int} (hk : st_in an_St y = true) (h1 : lv_C y av G M P) (h2 : mj_R mj_tab 40 y av G M (fun r _ _ => r = some (.inl v))) : lv_C y av G M (fun z M' => P z M' ∧ z = v) := fun Q hQ =>
  sn_and hk (h1 (fun r G' M' => ∃ z, r = some (.inl z) ∧ G' = G ∧ P z M') (fun z M' p => ⟨z, rfl, rfl, p⟩)) h2 (fun r G' M' g1 g2 => by
    obtain ⟨z, e1, rfl, p1⟩ := g1
    rw [e1]; exact hQ _ M' ⟨p1, Sum.inl.inj (Option.some.inj (e1.symm.trans g2))⟩)
theorem lv_C.lnn {y : Nat} {av : List mj_V} {G : mj_G} {M : mj_M} {P P' : Int → mj_M → Prop} (hk : st_in ln_St y = true) (h1 : lv_C y av G M (fun z M' => P z M' ∧ (ln G M M' → P' z M'))) : lv_C y av G M (fun z M' => P z M' ∧ P' z M') := fun Q hQ =>
  sn_ln hk (h1 (fun r G' M' => ∃ z, r = some (.inl z) ∧ G' = G ∧ P z M' ∧ (ln G M M' → P' z M')) (fun z M' p => ⟨z, rfl, rfl, p⟩)) (fun r M' q l => by
    obtain ⟨z, rfl, -, a, b⟩ := q
    exact hQ z M' ⟨a, b l⟩)
theorem lv_C.l1 {y : Nat} {av : List mj_V} {G : mj_G} {M : mj_M} {P : Int → mj_M → Prop} (hk : st_in ln_St y = true) (h1 : lv_C y av G M (fun z M' => ln G M M' → P z M')) : lv_C y av G M P := fun Q hQ =>
  sn_ln hk (h1 (fun r G' M' => ∃ z, r = some (.inl z) ∧ G' = G ∧ (ln G M M' → P z M')) (fun z M' p => ⟨z, rfl, rfl, p⟩)) (fun r M' q l => by
    obtain ⟨z, rfl, -, b⟩ := q
    exact hQ z M' (b l))
def lp_X (G : mj_G) (M : mj_M) (x m tp s kp bc bt kc kr : Nat) (w : Nat → Nat) : Prop := lp_I G M x m tp s kp bc bt kc kr w ∧ nz G M s m kp kc w
theorem lp_I.gk {G : mj_G} {M : mj_M} {x m tp s kp bc bt kc kr : Nat} {w : Nat → Nat} (h : lp_I G M x m tp s kp bc bt kc kr w) : G kp = (70100, 1076) := h.1.1.1.2.1.2.2.2.2
theorem lp_I.gc {G : mj_G} {M : mj_M} {x m tp s kp bc bt kc kr : Nat} {w : Nat → Nat} (h : lp_I G M x m tp s kp bc bt kc kr w) : G kc = (48102, 2) := h.2.1.1
theorem lp_I.gr {G : mj_G} {M : mj_M} {x m tp s kp bc bt kc kr : Nat} {w : Nat → Nat} (h : lp_I G M x m tp s kp bc bt kc kr w) : G kr = (72102, 2) := h.2.1.2.1
theorem lp_I.gt {G : mj_G} {M : mj_M} {x m tp s kp bc bt kc kr : Nat} {w : Nat → Nat} (h : lp_I G M x m tp s kp bc bt kc kr w) : G tp = (1008, 0) := h.1.1.1.2.1.2.2.1
/-- names, by a call's frame and longs -/
theorem lp_I.nz {G : mj_G} {M M0 M' : mj_M} {x m tp s kp bc bt kc kr : Nat} {w : Nat → Nat} {W : List (Nat × Nat × Nat)} (hI : lp_I G M0 x m tp s kp bc bt kc kr w) (h : nz G M s m kp kc w) (f : ab_frm W G M M') (c : nz_c W) (l : ln G M M') : nz G M' s m kp kc w := h.go hI.J.1 hI.gm hI.gs hI.gk hI.gc f l c
theorem lp_X.mv {G : mj_G} {M M' : mj_M} {x m tp s kp bc bt kc kr : Nat} {w : Nat → Nat} (h : lp_X G M x m tp s kp bc bt kc kr w) (e1 : M'.1 = M.1) (e2 : M'.2.2 = M.2.2) (e3 : ∀ y k, (G y).1 ≠ 90103 → M'.2.1 y k = M.2.1 y k) : lp_X G M' x m tp s kp bc bt kc kr w := ⟨h.1.mv e1 e2 (fun y k hy => e3 y k (by rw [hy]; decide)), h.2.mv h.1.J.1 e1 e2 (fun a k _ ha => e3 a k ha)⟩
theorem sz_headN {w : sx_w} {h : sx_H} {G : mj_G} {M : mj_M} (hR : sx_RH w h G M) (k2 : sz_hk h = true) (hA : lq_A (sz_G w h G) w.2.2.2) : nz (sz_G w h G) (sz_M w h G M) (w.2.2.2 338) (w.2.2.2 336) (w.2.2.2 357) (w.2.2.2 120) w.2.2.2 := by
  have n1 := (sz_hk_s k2).1
  obtain ⟨ya, yb, -, -, -⟩ := sz_hy_s k2
  have tg : ∀ i t n, (i, t, n) ∈ sz_lt → sz_G w h G (w.2.2.2 i) = (t, n) := fun i t n he => sz_tg_s (yb (i, t, n) he) hR (by have := sz_lt_lt _ he; omega)
  have rq : ∀ i k j, (i, k, j) ∈ sz_lr → (sz_M w h G M).2.2 (w.2.2.2 i) k = some (w.2.2.2 j) := fun i k j he => sz_rq_s (ya (i, k, j) he) hR (by have := (sz_lr_lt _ he).1; omega) (sz_lr_lt _ he).2
  have s0 : (sz_M w h G M).1 (w.2.2.2 338) 0 = 0 := sz_q_s hR k2 (by decide +kernel)
  have c0 : (sz_M w h G M).1 (w.2.2.2 120) 0 = 0 := sz_q_s hR k2 (by decide +kernel)
  have c1 : (sz_M w h G M).1 (w.2.2.2 120) 1 = 0 := sz_q_s hR k2 (by decide +kernel)
  have g0 := rq 29 0 30 (by decide +kernel)
  refine ⟨w.2.2.2 341, w.2.2.2 358, ⟨rq _ _ _ (by decide +kernel), tg _ _ _ (by decide +kernel), rq _ _ _ (by decide +kernel), tg _ _ _ (by decide +kernel)⟩, fun p q hn => ?_, fun k hk h0 => ?_⟩
  · have e := Option.some.inj (hn.1.symm.trans g0)
    have hp4 := lq_P4 hn.pin.1
    have e := hA.1 _ _ (by omega) (by omega) e
    subst e
    refine ⟨fun _ => [], fun j hj => ⟨?_, by show 0 ≤ 8; decide, fun y hy => by cases hy⟩, fun j hj => ?_⟩
    · obtain ⟨r1, r2, r3⟩ := hR.2.2.1 31 (by omega)
      show M.2.1 (w.2.2.2 31) j = _
      rw [(r3 j (by omega)).2.1, sz_d3_s k2 j hj]; rfl
    · rw [s0] at hj; omega
  · exfalso
    have : k = 0 ∨ k = 1 := by omega
    rcases this with rfl | rfl
    · exact h0 c0
    · exact h0 c1
end
section
/-! ===== the cheapest letting as a pure thing: the first of the cheapest ways ===== -/
abbrev cs_R : Type := Option (Int × (Nat → Int))
def cs_add (k : Int) (m : Nat) (c : Int) (a : cs_R) : cs_R := a.map (fun x => (k + x.1, fun j => if j = m then c else x.2 j))
/-- of two, the second only if it is less -/
def cs_min (a b : cs_R) : cs_R := match a, b with
  | none, b => b
  | some x, none => some x
  | some x, some y => if y.1 < x.1 then some y else some x
def cs_fold (f : Nat → cs_R) : Nat → cs_R
  | 0 => none
  | n + 1 => cs_min (cs_fold f n) (f n)
/-- the least of all is c at most -/
def cs_le (a : cs_R) (c : Int) : Prop := ∃ x, a = some x ∧ x.1 ≤ c
theorem cs_min_le {a b : cs_R} {c : Int} : cs_le (cs_min a b) c ↔ cs_le a c ∨ cs_le b c := by
  unfold cs_le cs_min
  cases a with
  | none => simp
  | some x =>
    cases b with
    | none => simp
    | some y =>
      show (∃ z, (if y.1 < x.1 then some y else some x) = some z ∧ z.1 ≤ c) ↔ _
      split
      · rename_i h
        constructor
        · rintro ⟨z, e, hz⟩; cases e; exact Or.inr ⟨y, rfl, hz⟩
        · rintro (⟨z, e, hz⟩ | ⟨z, e, hz⟩)
          · cases e; exact ⟨y, rfl, by omega⟩
          · cases e; exact ⟨y, rfl, hz⟩
      · rename_i h
        constructor
        · rintro ⟨z, e, hz⟩; cases e; exact Or.inl ⟨x, rfl, hz⟩
        · rintro (⟨z, e, hz⟩ | ⟨z, e, hz⟩)
          · cases e; exact ⟨x, rfl, hz⟩
          · cases e; exact ⟨x, rfl, by omega⟩
theorem cs_fold_le {f : Nat → cs_R} {c : Int} : ∀ n, cs_le (cs_fold f n) c ↔ ∃ i, i < n ∧ cs_le (f i) c
  | 0 => by
    constructor
    · rintro ⟨x, e, -⟩; cases e
    · rintro ⟨i, h, -⟩; omega
  | n + 1 => by
    show cs_le (cs_min (cs_fold f n) (f n)) c ↔ _
    rw [cs_min_le, cs_fold_le n]
    constructor
    · rintro (⟨i, h, g⟩ | g)
      · exact ⟨i, by omega, g⟩
      · exact ⟨n, by omega, g⟩
    · rintro ⟨i, h, g⟩
      by_cases e : i = n
      · rw [e] at g; exact Or.inr g
      · exact Or.inl ⟨i, by omega, g⟩
theorem cs_add_le {k c : Int} {m : Nat} {p : Int} {a : cs_R} : cs_le (cs_add k m p a) c ↔ cs_le a (c - k) := by
  unfold cs_le cs_add
  cases a with
  | none => simp
  | some x =>
    constructor
    · rintro ⟨y, e, h⟩; cases e; exact ⟨x, rfl, by show x.1 ≤ c - k; have : k + x.1 ≤ c := h; omega⟩
    · rintro ⟨y, e, h⟩; cases e; exact ⟨_, rfl, by show k + x.1 ≤ c; omega⟩
theorem cs_le.mono {a : cs_R} {c d : Int} (h : cs_le a c) (e : c ≤ d) : cs_le a d := by
  obtain ⟨x, h1, h2⟩ := h
  exact ⟨x, h1, by omega⟩
theorem cs_none {a : cs_R} : a = none ↔ ∀ c, ¬ cs_le a c := by
  cases a with
  | none => exact ⟨fun _ c ⟨x, e, _⟩ => (by cases e), fun _ => rfl⟩
  | some x => exact ⟨fun h => (by cases h), fun h => absurd ⟨x, rfl, Int.le_refl _⟩ (h x.1)⟩
/-- the last of a fold isn't taken, if another is as little -/
theorem cs_fold_last {f : Nat → cs_R} {n : Nat} (h : ∀ c, cs_le (f n) c → ∃ i, i < n ∧ cs_le (f i) c) : cs_fold f (n + 1) = cs_fold f n := by
  show cs_min (cs_fold f n) (f n) = _
  cases e : f n with
  | none =>
    cases e2 : cs_fold f n with
    | none => rfl
    | some x => rfl
  | some y =>
    obtain ⟨i, hi, hl⟩ := h y.1 ⟨y, e, Int.le_refl _⟩
    obtain ⟨x, e2, hx⟩ := (cs_fold_le (f := f) (c := y.1) n).mpr ⟨i, hi, hl⟩
    rw [e2]
    exact if_neg (by omega)
def cs_d (a b : Nat) : Int := if a ≤ b then (b : Int) - a else (a : Int) - b
theorem cs_d_0 (a b : Nat) : 0 ≤ cs_d a b := by
  unfold cs_d
  split <;> omega
theorem cs_d_s (a : Nat) : cs_d a a = 0 := by
  unfold cs_d
  split <;> omega
section CP
variable (H : Nat → Int)
/-- towns; what a way costs between places (the SEA's is behind the last town), what a month brings -/
def cs_t : Nat := (H 0).toNat
def cs_cost (a b : Nat) : Int := H 1 * cs_d a b + (if b < cs_t H ∧ a ≠ b then H (10 + 9 * b) else 0)
def cs_gain (k m : Nat) : Int := if H (4 + 9 * k) < H (76 + m) then H (76 + m) - H (4 + 9 * k) else 0
def cs_lk (L : Nat → Int) (k m : Nat) : Nat → Int := fun j => if j = k then L j - cs_gain H k m else L j
def cs_code (c : Nat) : Int := if c = cs_t H then 8 else (c : Int)
def cs_met (L : Nat → Int) : Prop := ∀ k, k < cs_t H → L k ≤ 0
/-- the least of the months m, m + 1 .. (r of them), from a place, with what is lacking; and its first way -/
noncomputable def cs_S : Nat → Nat → Nat → (Nat → Int) → cs_R
  | 0, _, _, L => @ite _ (cs_met H L) (Classical.propDecidable _) (some (0, fun _ => 0)) none
  | r + 1, m, a, L => cs_fold (fun c => cs_add (cs_cost H a c) m (cs_code H c) (cs_S r (m + 1) c (cs_lk H L c m))) (cs_t H + 1)
/-- by towns alone -/
noncomputable def cs_T : Nat → Nat → Nat → (Nat → Int) → cs_R
  | 0, _, _, L => @ite _ (cs_met H L) (Classical.propDecidable _) (some (0, fun _ => 0)) none
  | r + 1, m, a, L => cs_fold (fun c => cs_add (cs_cost H a c) m (cs_code H c) (cs_T r (m + 1) c (cs_lk H L c m))) (cs_t H)
end CP
section CQ
variable {H : Nat → Int}
theorem cs_gain_0 (k m : Nat) : 0 ≤ cs_gain H k m := by
  unfold cs_gain
  split <;> omega
theorem cs_S0_le {m a : Nat} {L : Nat → Int} {c : Int} : cs_le (cs_S H 0 m a L) c ↔ cs_met H L ∧ 0 ≤ c := by
  unfold cs_S cs_le
  split
  · rename_i h
    exact ⟨fun ⟨x, e, hx⟩ => ⟨h, by cases e; exact hx⟩, fun q => ⟨_, rfl, q.2⟩⟩
  · rename_i h
    exact ⟨fun ⟨x, e, hx⟩ => (by cases e), fun q => absurd q.1 h⟩
theorem cs_S1_le {r m a : Nat} {L : Nat → Int} {c : Int} : cs_le (cs_S H (r + 1) m a L) c ↔ ∃ i, i < cs_t H + 1 ∧ cs_le (cs_S H r (m + 1) i (cs_lk H L i m)) (c - cs_cost H a i) := by
  show cs_le (cs_fold _ _) c ↔ _
  rw [cs_fold_le]
  exact ⟨fun ⟨i, h, g⟩ => ⟨i, h, cs_add_le.mp g⟩, fun ⟨i, h, g⟩ => ⟨i, h, cs_add_le.mpr g⟩⟩
/-- lacking less is no worse -/
theorem cs_S_mono : ∀ (r m a : Nat) (L L' : Nat → Int) (c : Int), (∀ k, k < cs_t H → L' k ≤ L k) → cs_le (cs_S H r m a L) c → cs_le (cs_S H r m a L') c
  | 0, m, a, L, L', c, h, g => by
    rw [cs_S0_le] at g ⊢
    exact ⟨fun k hk => Int.le_trans (h k hk) (g.1 k hk), g.2⟩
  | r + 1, m, a, L, L', c, h, g => by
    rw [cs_S1_le] at g ⊢
    obtain ⟨i, hi, g⟩ := g
    refine ⟨i, hi, cs_S_mono r _ _ _ _ _ (fun k hk => ?_) g⟩
    unfold cs_lk
    have := h k hk
    split <;> omega
/-- what the PLAIN gives: no number is less than nothing -/
def cs_ok (H : Nat → Int) : Prop := 0 ≤ H 1 ∧ ∀ k, k < cs_t H → 0 ≤ H (10 + 9 * k)
theorem cs_cost_0 (h : cs_ok H) (a b : Nat) : 0 ≤ cs_cost H a b := by
  have h1 : 0 ≤ H 1 * cs_d a b := Int.mul_nonneg h.1 (cs_d_0 a b)
  unfold cs_cost
  by_cases c : b < cs_t H ∧ a ≠ b
  · rw [if_pos c]; have := h.2 b c.1; omega
  · rw [if_neg c]; omega
theorem cs_cost_s (a : Nat) : cs_cost H a a = 0 := by
  unfold cs_cost
  rw [if_neg (fun h => h.2 rfl), cs_d_s, Int.mul_zero]; rfl
theorem cs_cost_sea (a : Nat) : cs_cost H a (cs_t H) = H 1 * cs_d a (cs_t H) := by
  unfold cs_cost
  rw [if_neg (fun h => absurd h.1 (Nat.lt_irrefl _)), Int.add_zero]
/-- over the SEA it isn't nearer -/
theorem cs_cost_tri (h : cs_ok H) {a b : Nat} (ha : a < cs_t H) (hb : b < cs_t H) : cs_cost H a b ≤ cs_cost H a (cs_t H) + cs_cost H (cs_t H) b := by
  rw [cs_cost_sea a]
  unfold cs_cost
  have h1 := h.2 b hb
  have h2 : H 1 * cs_d a b ≤ H 1 * cs_d a (cs_t H) + H 1 * cs_d (cs_t H) b := by
    rw [← Int.mul_add]
    refine Int.mul_le_mul_of_nonneg_left ?_ h.1
    unfold cs_d
    rw [if_pos (show a ≤ cs_t H by omega), if_neg (show ¬ cs_t H ≤ b by omega)]
    by_cases c : a ≤ b
    · rw [if_pos c]; omega
    · rw [if_neg c]; omega
  rw [if_pos (show b < cs_t H ∧ cs_t H ≠ b from ⟨hb, by omega⟩)]
  by_cases c : b < cs_t H ∧ a ≠ b
  · rw [if_pos c]; omega
  · rw [if_neg c]; omega
theorem cs_S_0 (h : cs_ok H) : ∀ (r m a : Nat) (L : Nat → Int) (c : Int), cs_le (cs_S H r m a L) c → 0 ≤ c
  | 0, m, a, L, c, g => (cs_S0_le.mp g).2
  | r + 1, m, a, L, c, g => by
    obtain ⟨i, hi, g⟩ := cs_S1_le.mp g
    have := cs_S_0 h r _ _ _ _ g
    have := cs_cost_0 h a i
    omega
/-- to stay is one way -/
theorem cs_S_stay {r m a : Nat} {L L' : Nat → Int} {c : Int} (ha : a < cs_t H + 1) (hl : ∀ k, k < cs_t H → cs_lk H L' a m k ≤ L k) (g : cs_le (cs_S H r (m + 1) a L) c) : cs_le (cs_S H (r + 1) m a L') c := by
  rw [cs_S1_le]
  refine ⟨a, ha, ?_⟩
  rw [cs_cost_s, Int.sub_zero]
  exact cs_S_mono _ _ _ _ _ _ hl g
theorem cs_lk_le (L : Nat → Int) (a m k : Nat) : cs_lk H L a m k ≤ L k := by
  unfold cs_lk
  have := cs_gain_0 (H := H) a m
  split <;> omega
/-- from a town it is no dearer than over the SEA -/
theorem cs_S_sea (h : cs_ok H) : ∀ (r m a : Nat) (L : Nat → Int) (c : Int), a < cs_t H → cs_le (cs_S H r m (cs_t H) L) c → cs_le (cs_S H r m a L) (cs_cost H a (cs_t H) + c)
  | 0, m, a, L, c, ha, g => by
    rw [cs_S0_le] at g ⊢
    have := cs_cost_0 h a (cs_t H)
    exact ⟨g.1, by omega⟩
  | r + 1, m, a, L, c, ha, g => by
    obtain ⟨i, hi, g⟩ := cs_S1_le.mp g
    by_cases e : i = cs_t H
    · subst e
      rw [cs_cost_s, Int.sub_zero] at g
      have g2 := cs_S_sea h r (m + 1) a _ c ha g
      refine cs_S_stay (by omega) (fun k hk => ?_) g2
      have : cs_lk H L (cs_t H) m k = L k := if_neg (by omega)
      rw [this]; exact cs_lk_le L a m k
    · refine cs_S1_le.mpr ⟨i, hi, g.mono ?_⟩
      have := cs_cost_tri h ha (show i < cs_t H by omega)
      omega
/-- from a town the SEA is never taken -/
theorem cs_S_T (h : cs_ok H) : ∀ (r m a : Nat) (L : Nat → Int), a < cs_t H → cs_S H r m a L = cs_T H r m a L
  | 0, m, a, L, ha => rfl
  | r + 1, m, a, L, ha => by
    have e : cs_S H (r + 1) m a L = cs_fold (fun c => cs_add (cs_cost H a c) m (cs_code H c) (cs_S H r (m + 1) c (cs_lk H L c m))) (cs_t H) := by
      refine cs_fold_last (fun c g => ⟨a, ha, ?_⟩)
      have g := cs_add_le.mp g
      refine cs_add_le.mpr ?_
      rw [cs_cost_s, Int.sub_zero]
      have g2 := cs_S_sea h r (m + 1) a _ _ ha g
      rw [show cs_cost H a (cs_t H) + (c - cs_cost H a (cs_t H)) = c by omega] at g2
      refine cs_S_mono _ _ _ _ _ _ (fun k hk => ?_) g2
      have : cs_lk H L (cs_t H) m k = L k := if_neg (by omega)
      rw [this]; exact cs_lk_le L a m k
    rw [e]
    have key : ∀ n, n ≤ cs_t H → cs_fold (fun c => cs_add (cs_cost H a c) m (cs_code H c) (cs_S H r (m + 1) c (cs_lk H L c m))) n = cs_fold (fun c => cs_add (cs_cost H a c) m (cs_code H c) (cs_T H r (m + 1) c (cs_lk H L c m))) n := by
      intro n
      induction n with
      | zero => intro _; rfl
      | succ n ih =>
        intro hn
        show cs_min _ _ = cs_min _ _
        rw [ih (by omega)]
        show cs_min _ (cs_add _ _ _ (cs_S H r (m + 1) n _)) = cs_min _ (cs_add _ _ _ (cs_T H r (m + 1) n _))
        rw [cs_S_T h r (m + 1) n _ (by omega)]
    exact key _ (Nat.le_refl _)
/-- from the SEA, when a town lacks: to wait is no better than to go at once -/
theorem cs_S_go (h : cs_ok H) : ∀ (r m : Nat) (L L' : Nat → Int) (c : Int), ¬ cs_met H L → (∀ k, k < cs_t H → L' k ≤ L k) → cs_le (cs_S H r m (cs_t H) L) c → ∃ i, i < cs_t H ∧ cs_le (cs_S H r m i L') (c - cs_cost H (cs_t H) i)
  | 0, m, L, L', c, hn, hl, g => absurd (cs_S0_le.mp g).1 hn
  | r + 1, m, L, L', c, hn, hl, g => by
    obtain ⟨i, hi, g⟩ := cs_S1_le.mp g
    by_cases e : i = cs_t H
    · subst e
      rw [cs_cost_s, Int.sub_zero] at g
      have hL : ∀ k, k < cs_t H → cs_lk H L (cs_t H) m k = L k := fun k hk => if_neg (by omega)
      obtain ⟨j, hj, g2⟩ := cs_S_go h r (m + 1) _ L' c (fun q => hn (fun k hk => by rw [← hL k hk]; exact q k hk)) (fun k hk => by rw [hL k hk]; exact hl k hk) g
      exact ⟨j, hj, cs_S_stay (by omega) (fun k hk => cs_lk_le L' j m k) g2⟩
    · refine ⟨i, by omega, ?_⟩
      refine cs_S_stay (by omega) (fun k hk => ?_) g
      unfold cs_lk
      have := hl k hk
      split <;> omega
theorem cs_S_start (h : cs_ok H) {r m : Nat} {L : Nat → Int} (hn : ¬ cs_met H L) : cs_S H (r + 1) m (cs_t H) L = cs_T H (r + 1) m (cs_t H) L := by
  have e : cs_S H (r + 1) m (cs_t H) L = cs_fold (fun c => cs_add (cs_cost H (cs_t H) c) m (cs_code H c) (cs_S H r (m + 1) c (cs_lk H L c m))) (cs_t H) := by
    refine cs_fold_last (fun c g => ?_)
    have g := cs_add_le.mp g
    rw [cs_cost_s, Int.sub_zero] at g
    have hL : ∀ k, k < cs_t H → cs_lk H L (cs_t H) m k = L k := fun k hk => if_neg (by omega)
    obtain ⟨j, hj, g2⟩ := cs_S_go h r (m + 1) _ L c (fun q => hn (fun k hk => by rw [← hL k hk]; exact q k hk)) (fun k hk => by rw [hL k hk]; exact Int.le_refl _) g
    exact ⟨j, hj, cs_add_le.mpr (cs_S_mono _ _ _ _ _ _ (fun k hk => cs_lk_le L j m k) g2)⟩
  rw [e]
  have key : ∀ n, n ≤ cs_t H → cs_fold (fun c => cs_add (cs_cost H (cs_t H) c) m (cs_code H c) (cs_S H r (m + 1) c (cs_lk H L c m))) n = cs_fold (fun c => cs_add (cs_cost H (cs_t H) c) m (cs_code H c) (cs_T H r (m + 1) c (cs_lk H L c m))) n := by
    intro n
    induction n with
    | zero => intro _; rfl
    | succ n ih =>
      intro hn
      show cs_min _ _ = cs_min _ _
      rw [ih (by omega)]
      show cs_min _ (cs_add _ _ _ (cs_S H r (m + 1) n _)) = cs_min _ (cs_add _ _ _ (cs_T H r (m + 1) n _))
      rw [cs_S_T h r (m + 1) n _ (by omega)]
  exact key _ (Nat.le_refl _)
end CQ
end
section
/-! ===== the best so far, and what a search adds to it ===== -/
theorem cs_min_none (a : cs_R) : cs_min a none = a := by
  cases a <;> rfl
theorem cs_min_assoc (a b c : cs_R) : cs_min (cs_min a b) c = cs_min a (cs_min b c) := by
  cases a with
  | none => rfl
  | some x =>
    cases b with
    | none => rfl
    | some y =>
      cases c with
      | none => rw [cs_min_none, cs_min_none]
      | some z =>
        show cs_min (if y.1 < x.1 then some y else some x) (some z) = cs_min (some x) (if z.1 < y.1 then some z else some y)
        by_cases p : y.1 < x.1
        · rw [if_pos p]
          by_cases q : z.1 < y.1
          · rw [if_pos q]
            show (if z.1 < y.1 then some z else some y) = (if z.1 < x.1 then some z else some x)
            rw [if_pos q, if_pos (by omega)]
          · rw [if_neg q]
            show (if z.1 < y.1 then some z else some y) = (if y.1 < x.1 then some y else some x)
            rw [if_neg q, if_pos p]
        · rw [if_neg p]
          by_cases q : z.1 < y.1
          · rw [if_pos q]
          · rw [if_neg q]
            show (if z.1 < x.1 then some z else some x) = (if y.1 < x.1 then some y else some x)
            rw [if_neg p, if_neg (by omega)]
/-- a way's end behind what was paid and planned already -/
def cs_pre (k : Int) (P : Nat → Int) (m : Nat) (a : cs_R) : cs_R := a.map (fun x => (k + x.1, fun j => if j < m then P j else x.2 j))
theorem cs_pre_min (k : Int) (P : Nat → Int) (m : Nat) (a b : cs_R) : cs_pre k P m (cs_min a b) = cs_min (cs_pre k P m a) (cs_pre k P m b) := by
  cases a with
  | none => rfl
  | some x =>
    cases b with
    | none => rfl
    | some y =>
      show cs_pre k P m (if y.1 < x.1 then some y else some x) = (if k + y.1 < k + x.1 then _ else _)
      by_cases c : y.1 < x.1
      · rw [if_pos c, if_pos (by omega)]; rfl
      · rw [if_neg c, if_neg (by omega)]; rfl
theorem cs_pre_fold (k : Int) (P : Nat → Int) (m : Nat) (f : Nat → cs_R) : ∀ n, cs_pre k P m (cs_fold f n) = cs_fold (fun i => cs_pre k P m (f i)) n
  | 0 => rfl
  | n + 1 => by
    show cs_pre k P m (cs_min _ _) = cs_min _ _
    rw [cs_pre_min, cs_pre_fold k P m f n]
theorem cs_pre_add (k q c : Int) (P P' : Nat → Int) (m : Nat) (a : cs_R) (h1 : ∀ j, j < m → P' j = P j) (h2 : P' m = c) : cs_pre k P m (cs_add q m c a) = cs_pre (k + q) P' (m + 1) a := by
  cases a with
  | none => rfl
  | some x =>
    show some (k + (q + x.1), _) = some (k + q + x.1, _)
    congr 1
    refine Prod.ext (by show k + (q + x.1) = k + q + x.1; omega) (funext fun j => ?_)
    show (if j < m then P j else if j = m then c else x.2 j) = (if j < m + 1 then P' j else x.2 j)
    by_cases e : j < m
    · rw [if_pos e, if_pos (by omega), h1 j e]
    · rw [if_neg e]
      by_cases e2 : j = m
      · rw [if_pos e2, if_pos (by omega), e2, h2]
      · rw [if_neg e2, if_neg (by omega)]
/-- nothing better comes of what costs as much already -/
theorem cs_cut {b : cs_R} {k : Int} {P : Nat → Int} {m : Nat} {a : cs_R} (h0 : ∀ c, cs_le a c → 0 ≤ c) (hb : cs_le b k) : cs_min b (cs_pre k P m a) = b := by
  obtain ⟨x, e, hx⟩ := hb
  cases a with
  | none => exact cs_min_none b
  | some y =>
    subst e
    show (if k + y.1 < x.1 then _ else some x) = some x
    have : 0 ≤ y.1 := h0 y.1 ⟨y, rfl, Int.le_refl _⟩
    exact if_neg (by omega)
theorem cs_cut_n {b : cs_R} {k : Int} {P : Nat → Int} {m : Nat} {a : cs_R} (h : a = none) : cs_min b (cs_pre k P m a) = b := by
  subst h; exact cs_min_none b
section CU
variable {H : Nat → Int}
/-- what months m .. m + r - 1 can bring a town altogether -/
def cs_all (H : Nat → Int) (k : Nat) : Nat → Nat → Int
  | 0, _ => 0
  | r + 1, m => cs_gain H k m + cs_all H k r (m + 1)
theorem cs_all_0 (k : Nat) : ∀ r m, 0 ≤ cs_all H k r m
  | 0, _ => Int.le_refl _
  | r + 1, m => by
    have := cs_all_0 k r (m + 1)
    have := cs_gain_0 (H := H) k m
    show 0 ≤ cs_gain H k m + cs_all H k r (m + 1)
    omega
/-- what all months together don't bring isn't brought -/
theorem cs_can : ∀ (r m a : Nat) (L : Nat → Int) (c : Int), cs_le (cs_S H r m a L) c → ∀ k, k < cs_t H → L k ≤ cs_all H k r m
  | 0, m, a, L, c, g, k, hk => (cs_S0_le.mp g).1 k hk
  | r + 1, m, a, L, c, g, k, hk => by
    obtain ⟨i, hi, g⟩ := cs_S1_le.mp g
    have h := cs_can r (m + 1) i _ _ g k hk
    have := cs_gain_0 (H := H) k m
    show L k ≤ cs_gain H k m + cs_all H k r (m + 1)
    unfold cs_lk at h
    by_cases e : k = i
    · rw [if_pos e] at h
      rw [← e] at h
      omega
    · rw [if_neg e] at h; omega
theorem cs_can_n {r m a : Nat} {L : Nat → Int} {k : Nat} (hk : k < cs_t H) (h : cs_all H k r m < L k) : cs_S H r m a L = none := by
  refine cs_none.mpr (fun c g => ?_)
  have := cs_can r m a L c g k hk
  omega
/-- a node of the search: its places tried one after another -/
noncomputable def cs_node (H : Nat → Int) (b : cs_R) (k : Int) (P : Nat → Int) (r m a : Nat) (L : Nat → Int) (n : Nat) : cs_R :=
  cs_min b (cs_fold (fun i => cs_pre (k + cs_cost H a i) (fun j => if j = m then cs_code H i else P j) (m + 1) (cs_S H r (m + 1) i (cs_lk H L i m))) n)
theorem cs_node_0 {b : cs_R} {k : Int} {P : Nat → Int} {r m a : Nat} {L : Nat → Int} : cs_node H b k P r m a L 0 = b := cs_min_none b
theorem cs_node_s {b : cs_R} {k : Int} {P : Nat → Int} {r m a : Nat} {L : Nat → Int} {n : Nat} : cs_node H b k P r m a L (n + 1) = cs_min (cs_node H b k P r m a L n) (cs_pre (k + cs_cost H a n) (fun j => if j = m then cs_code H n else P j) (m + 1) (cs_S H r (m + 1) n (cs_lk H L n m))) := by
  unfold cs_node
  rw [cs_min_assoc]; rfl
theorem cs_node_e {b : cs_R} {k : Int} {P : Nat → Int} {r m a : Nat} {L : Nat → Int} : cs_node H b k P r m a L (cs_t H + 1) = cs_min b (cs_pre k P m (cs_S H (r + 1) m a L)) := by
  unfold cs_node
  congr 1
  show _ = cs_pre k P m (cs_fold _ _)
  rw [cs_pre_fold]
  congr 1
  funext i
  exact (cs_pre_add k (cs_cost H a i) (cs_code H i) P (fun j => if j = m then cs_code H i else P j) m _ (fun j hj => if_neg (by omega)) (if_pos rfl)).symm
end CU
end
section
/-! ===== all needs are met: the first way that costs nothing ===== -/
theorem cs_fold_first {f : Nat → cs_R} {i : Nat} {x : Int × (Nat → Int)} (e : f i = some x) (hb : ∀ j, j < i → ∀ c, cs_le (f j) c → x.1 < c) : ∀ n, i < n → (∀ j, i < j → j < n → ∀ c, cs_le (f j) c → x.1 ≤ c) → cs_fold f n = some x
  | 0, h, _ => absurd h (Nat.not_lt_zero _)
  | n + 1, h, ha => by
    show cs_min (cs_fold f n) (f n) = _
    by_cases p : i = n
    · subst p
      rw [e]
      cases q : cs_fold f i with
      | none => rfl
      | some y =>
        obtain ⟨j, hj, hl⟩ := (cs_fold_le (f := f) (c := y.1) i).mp ⟨y, q, Int.le_refl _⟩
        have := hb j hj _ hl
        exact if_pos this
    · rw [cs_fold_first e hb n (by omega) (fun j h1 h2 => ha j h1 (by omega))]
      cases q : f n with
      | none => rfl
      | some y =>
        have := ha n (by omega) (by omega) y.1 ⟨y, q, Int.le_refl _⟩
        exact if_neg (by omega)
section CM
variable {H : Nat → Int}
theorem cs_met_S (h : cs_ok H) : ∀ (r m a : Nat) (L : Nat → Int), a < cs_t H + 1 → cs_met H L → ∃ P, cs_S H r m a L = some (0, P)
  | 0, m, a, L, ha, g => ⟨fun _ => 0, by unfold cs_S; exact if_pos g⟩
  | r + 1, m, a, L, ha, g => by
    have g2 : cs_met H (cs_lk H L a m) := fun k hk => Int.le_trans (cs_lk_le L a m k) (g k hk)
    obtain ⟨P, e⟩ := cs_met_S h r (m + 1) a _ ha g2
    have l : cs_le (cs_S H (r + 1) m a L) 0 := cs_S1_le.mpr ⟨a, ha, by rw [cs_cost_s]; exact ⟨_, e, Int.le_refl _⟩⟩
    obtain ⟨x, e1, hx⟩ := l
    have := cs_S_0 h (r + 1) m a L x.1 ⟨x, e1, Int.le_refl _⟩
    obtain ⟨x1, x2⟩ := x
    have hx' : x1 ≤ 0 := hx
    have this' : 0 ≤ x1 := this
    have : x1 = 0 := by omega
    subst this
    exact ⟨x2, e1⟩
/-- one month of it: the first place that is come to for nothing -/
theorem cs_met_step (h : cs_ok H) {r m a p : Nat} {L : Nat → Int} (g : cs_met H L) (hp : p < cs_t H + 1) (h0 : cs_cost H a p = 0) (hf : ∀ j, j < p → cs_cost H a j ≠ 0) : cs_S H (r + 1) m a L = cs_add 0 m (cs_code H p) (cs_S H r (m + 1) p (cs_lk H L p m)) := by
  have g2 : cs_met H (cs_lk H L p m) := fun k hk => Int.le_trans (cs_lk_le L p m k) (g k hk)
  obtain ⟨P, e⟩ := cs_met_S h r (m + 1) p _ hp g2
  rw [e]
  show cs_fold (fun c => cs_add (cs_cost H a c) m (cs_code H c) (cs_S H r (m + 1) c (cs_lk H L c m))) (cs_t H + 1) = some (0 + 0, _)
  refine cs_fold_first (i := p) ?_ (fun j hj c q => ?_) _ hp (fun j hj hn c q => ?_)
  · show cs_add (cs_cost H a p) m (cs_code H p) (cs_S H r (m + 1) p (cs_lk H L p m)) = _
    rw [e, h0]; rfl
  · have q := cs_S_0 h _ _ _ _ _ (cs_add_le.mp q)
    have := cs_cost_0 h a j
    have := hf j hj
    show (0 : Int) + 0 < c
    omega
  · have q := cs_S_0 h _ _ _ _ _ (cs_add_le.mp q)
    have := cs_cost_0 h a j
    show (0 : Int) + 0 ≤ c
    omega
end CM
end
section
/-! ===== what is left to pay at least ===== -/
def cs_bk (b : Nat → Bool) (a : Nat) : Nat → Nat
  | 0 => 0
  | n + 1 => if b n = true then max (cs_bk b a n) (a - n) else cs_bk b a n
def cs_ah (b : Nat → Bool) (a : Nat) : Nat → Nat
  | 0 => 0
  | n + 1 => if b n = true then max (cs_ah b a n) (n - a) else cs_ah b a n
def cs_tp (H : Nat → Int) (b : Nat → Bool) (a : Nat) : Nat → Int
  | 0 => 0
  | n + 1 => cs_tp H b a n + (if b n = true ∧ n ≠ a then H (10 + 9 * n) else 0)
def cs_far (b : Nat → Bool) (a n : Nat) : Nat := cs_bk b a n + cs_ah b a n + min (cs_bk b a n) (cs_ah b a n)
def cs_LB (H : Nat → Int) (b : Nat → Bool) (a : Nat) : Int := cs_tp H b a (cs_t H) + H 1 * (cs_far b a (cs_t H) : Nat)
theorem cs_bk_eq {b b' : Nat → Bool} {a : Nat} : ∀ n, (∀ j, j < n → j ≠ a → b j = b' j) → cs_bk b a n = cs_bk b' a n
  | 0, _ => rfl
  | n + 1, h => by
    show (if b n = true then max (cs_bk b a n) (a - n) else cs_bk b a n) = (if b' n = true then max (cs_bk b' a n) (a - n) else cs_bk b' a n)
    rw [cs_bk_eq n (fun j hj => h j (by omega))]
    by_cases e : n = a
    · split <;> split <;> omega
    · rw [h n (by omega) e]
theorem cs_ah_eq {b b' : Nat → Bool} {a : Nat} : ∀ n, (∀ j, j < n → j ≠ a → b j = b' j) → cs_ah b a n = cs_ah b' a n
  | 0, _ => rfl
  | n + 1, h => by
    show (if b n = true then max (cs_ah b a n) (n - a) else cs_ah b a n) = (if b' n = true then max (cs_ah b' a n) (n - a) else cs_ah b' a n)
    rw [cs_ah_eq n (fun j hj => h j (by omega))]
    by_cases e : n = a
    · split <;> split <;> omega
    · rw [h n (by omega) e]
theorem cs_tp_eq {H : Nat → Int} {b b' : Nat → Bool} {a : Nat} : ∀ n, (∀ j, j < n → j ≠ a → b j = b' j) → cs_tp H b a n = cs_tp H b' a n
  | 0, _ => rfl
  | n + 1, h => by
    show cs_tp H b a n + _ = cs_tp H b' a n + _
    rw [cs_tp_eq n (fun j hj => h j (by omega))]
    by_cases e : n = a
    · rw [if_neg (fun q => q.2 e), if_neg (fun q => q.2 e)]
    · rw [h n (by omega) e]
theorem cs_far_tri (b : Nat → Bool) (a i : Nat) : ∀ n, n ≤ 3 → (cs_far b a n : Int) ≤ cs_d a i + (cs_far b i n : Nat)
  | 0, _ => by
    have := cs_d_0 a i
    show ((0 : Nat) : Int) ≤ cs_d a i + ((0 : Nat) : Int)
    omega
  | 1, _ => by
    unfold cs_far cs_bk cs_ah cs_bk cs_ah cs_d
    split <;> split <;> omega
  | 2, _ => by
    unfold cs_far cs_bk cs_ah cs_bk cs_ah cs_bk cs_ah cs_d
    cases b 0 <;> cases b 1 <;> simp only [if_true, if_false, Bool.false_eq_true] <;> split <;> omega
  | 3, _ => by
    unfold cs_far cs_bk cs_ah cs_bk cs_ah cs_bk cs_ah cs_bk cs_ah cs_d
    cases b 0 <;> cases b 1 <;> cases b 2 <;> simp only [if_true, if_false, Bool.false_eq_true] <;> split <;> omega
  | n + 4, h => absurd h (by omega)
section CL
variable {H : Nat → Int}
theorem cs_tp_0 (h : cs_ok H) (b : Nat → Bool) (a : Nat) : ∀ n, n ≤ cs_t H → 0 ≤ cs_tp H b a n
  | 0, _ => Int.le_refl _
  | n + 1, hn => by
    have h1 := cs_tp_0 h b a n (by omega)
    have h2 := h.2 n (by omega)
    show 0 ≤ cs_tp H b a n + _
    split <;> omega
theorem cs_tp_tri (h : cs_ok H) (b : Nat → Bool) (a i : Nat) : ∀ n, n ≤ cs_t H → cs_tp H b a n ≤ (if i < n ∧ a ≠ i then H (10 + 9 * i) else 0) + cs_tp H b i n
  | 0, _ => by
    show (0 : Int) ≤ (if i < 0 ∧ a ≠ i then H (10 + 9 * i) else 0) + 0
    rw [if_neg (by omega)]; omega
  | n + 1, hn => by
    have h1 := cs_tp_tri h b a i n (by omega)
    have h2 := h.2 n (by omega)
    show cs_tp H b a n + (if b n = true ∧ n ≠ a then H (10 + 9 * n) else 0) ≤ _ + (cs_tp H b i n + (if b n = true ∧ n ≠ i then H (10 + 9 * n) else 0))
    by_cases e : n = i
    · subst e
      rw [if_neg (show ¬ (n < n ∧ a ≠ n) by omega)] at h1
      rw [if_neg (show ¬ (b n = true ∧ n ≠ n) from fun q => q.2 rfl)]
      by_cases e2 : a = n
      · rw [if_neg (show ¬ (b n = true ∧ n ≠ a) from fun q => q.2 e2.symm), if_neg (show ¬ (n < n + 1 ∧ a ≠ n) from fun q => q.2 e2)]; omega
      · rw [if_pos (show n < n + 1 ∧ a ≠ n from ⟨by omega, e2⟩)]
        split <;> omega
    · have e3 : (i < n + 1 ∧ a ≠ i) ↔ (i < n ∧ a ≠ i) := ⟨fun q => ⟨by omega, q.2⟩, fun q => ⟨by omega, q.2⟩⟩
      have e5 : (if i < n + 1 ∧ a ≠ i then H (10 + 9 * i) else 0) = (if i < n ∧ a ≠ i then H (10 + 9 * i) else 0) := by
        by_cases q : i < n ∧ a ≠ i
        · rw [if_pos q, if_pos (e3.mpr q)]
        · rw [if_neg q, if_neg (fun z => q (e3.mp z))]
      rw [e5]
      by_cases e4 : b n = true
      · rw [if_pos (show b n = true ∧ n ≠ i from ⟨e4, e⟩)]
        split <;> omega
      · rw [if_neg (show ¬ (b n = true ∧ n ≠ a) from fun q => e4 q.1), if_neg (show ¬ (b n = true ∧ n ≠ i) from fun q => e4 q.1)]; omega
def cs_b (L : Nat → Int) : Nat → Bool := fun j => decide (0 < L j)
theorem cs_LB_le (h : cs_ok H) (ht : cs_t H ≤ 3) : ∀ (r m a : Nat) (L : Nat → Int) (c : Int), cs_le (cs_S H r m a L) c → cs_LB H (cs_b L) a ≤ c
  | 0, m, a, L, c, g => by
    obtain ⟨g, hc⟩ := cs_S0_le.mp g
    have e : ∀ j, j < cs_t H → j ≠ a → cs_b L j = (fun _ => false) j := fun j hj _ => decide_eq_false (by have := g j hj; omega)
    unfold cs_LB cs_far
    rw [cs_tp_eq _ e, cs_bk_eq _ e, cs_ah_eq _ e]
    have z1 : ∀ n, cs_tp H (fun _ => false) a n = 0 := by
      intro n
      induction n with
      | zero => rfl
      | succ n ih => show cs_tp H _ a n + _ = 0; rw [ih, if_neg (fun q => by cases q.1)]; rfl
    have z2 : ∀ n, cs_bk (fun _ => false) a n = 0 := by
      intro n
      induction n with
      | zero => rfl
      | succ n ih => exact ih
    have z3 : ∀ n, cs_ah (fun _ => false) a n = 0 := by
      intro n
      induction n with
      | zero => rfl
      | succ n ih => exact ih
    rw [z1, z2, z3]
    show (0 : Int) + H 1 * ((0 : Nat) : Int) ≤ c
    rw [show ((0 : Nat) : Int) = 0 from rfl, Int.mul_zero]; omega
  | r + 1, m, a, L, c, g => by
    obtain ⟨i, hi, g⟩ := cs_S1_le.mp g
    have h1 := cs_LB_le h ht r (m + 1) i _ _ g
    have e : ∀ j, j < cs_t H → j ≠ i → cs_b (cs_lk H L i m) j = cs_b L j := fun j _ hj => by
      unfold cs_b cs_lk
      rw [if_neg hj]
    unfold cs_LB cs_far at h1
    rw [cs_tp_eq _ e, cs_bk_eq _ e, cs_ah_eq _ e] at h1
    have h2 := cs_tp_tri h (cs_b L) a i (cs_t H) (Nat.le_refl _)
    have h3 := Int.mul_le_mul_of_nonneg_left (cs_far_tri (cs_b L) a i (cs_t H) ht) h.1
    rw [Int.mul_add] at h3
    unfold cs_cost at h1
    unfold cs_LB
    have h4 : cs_tp H (cs_b L) i (cs_t H) + H 1 * (cs_far (cs_b L) i (cs_t H) : Nat) ≤ c - (H 1 * cs_d a i + if i < cs_t H ∧ a ≠ i then H (10 + 9 * i) else 0) := h1
    omega
end CL
end
section
/-! ===== what all months bring at most, each to its best town ===== -/
def cs_sum (L : Nat → Int) : Nat → Int
  | 0 => 0
  | n + 1 => cs_sum L n + max 0 (L n)
def cs_most (H : Nat → Int) (m : Nat) : Nat → Int
  | 0 => 0
  | n + 1 => max (cs_most H m n) (cs_gain H n m)
def cs_bestof (H : Nat → Int) : Nat → Nat → Int
  | 0, _ => 0
  | r + 1, m => cs_bestof H r (m + 1) + cs_most H m (cs_t H)
section CB
variable {H : Nat → Int}
theorem cs_most_0 (m : Nat) : ∀ n, 0 ≤ cs_most H m n
  | 0 => Int.le_refl _
  | n + 1 => by
    have := cs_most_0 m n
    show 0 ≤ max (cs_most H m n) (cs_gain H n m)
    omega
theorem cs_most_le (m : Nat) : ∀ n k, k < n → cs_gain H k m ≤ cs_most H m n
  | 0, k, h => absurd h (Nat.not_lt_zero _)
  | n + 1, k, h => by
    show _ ≤ max (cs_most H m n) (cs_gain H n m)
    by_cases e : k = n
    · subst e; omega
    · have := cs_most_le m n k (by omega)
      omega
theorem cs_sum_lk (L : Nat → Int) (i m : Nat) : ∀ n, cs_sum L n ≤ cs_sum (cs_lk H L i m) n + (if i < n then cs_gain H i m else 0)
  | 0 => by
    rw [if_neg (by omega)]
    show (0 : Int) ≤ 0 + 0
    omega
  | n + 1 => by
    have h := cs_sum_lk L i m n
    have g := cs_gain_0 (H := H) i m
    show cs_sum L n + max 0 (L n) ≤ cs_sum (cs_lk H L i m) n + max 0 (cs_lk H L i m n) + _
    by_cases e : n = i
    · subst e
      have : cs_lk H L n m n = L n - cs_gain H n m := if_pos rfl
      rw [this]
      rw [if_neg (by omega)] at h
      rw [if_pos (by omega)]
      omega
    · have : cs_lk H L i m n = L n := if_neg e
      rw [this]
      by_cases e2 : i < n
      · rw [if_pos e2] at h
        rw [if_pos (by omega)]
        omega
      · rw [if_neg e2] at h
        rw [if_neg (by omega)]
        omega
theorem cs_sum_np {L : Nat → Int} : ∀ n, (∀ k, k < n → L k ≤ 0) → cs_sum L n = 0
  | 0, _ => rfl
  | n + 1, h => by
    have := h n (by omega)
    show cs_sum L n + max 0 (L n) = 0
    rw [cs_sum_np n (fun k hk => h k (by omega))]
    omega
theorem cs_can2 : ∀ (r m a : Nat) (L : Nat → Int) (c : Int), cs_le (cs_S H r m a L) c → cs_sum L (cs_t H) ≤ cs_bestof H r m
  | 0, m, a, L, c, g => by
    rw [cs_sum_np _ (cs_S0_le.mp g).1]
    exact Int.le_refl _
  | r + 1, m, a, L, c, g => by
    obtain ⟨i, hi, g⟩ := cs_S1_le.mp g
    have h := cs_can2 r (m + 1) i _ _ g
    have h2 := cs_sum_lk (H := H) L i m (cs_t H)
    have h3 := cs_most_0 (H := H) m (cs_t H)
    show _ ≤ cs_bestof H r (m + 1) + cs_most H m (cs_t H)
    by_cases e : i < cs_t H
    · rw [if_pos e] at h2
      have := cs_most_le (H := H) m (cs_t H) i e
      omega
    · rw [if_neg e] at h2
      omega
theorem cs_can2_n {r m a : Nat} {L : Nat → Int} (h : cs_bestof H r m < cs_sum L (cs_t H)) : cs_S H r m a L = none := by
  refine cs_none.mpr (fun c g => ?_)
  have := cs_can2 r m a L c g
  omega
/-- by towns alone, a node -/
noncomputable def cs_nodeT (H : Nat → Int) (b : cs_R) (k : Int) (P : Nat → Int) (r m a : Nat) (L : Nat → Int) (n : Nat) : cs_R :=
  cs_min b (cs_fold (fun i => cs_pre (k + cs_cost H a i) (fun j => if j = m then cs_code H i else P j) (m + 1) (cs_T H r (m + 1) i (cs_lk H L i m))) n)
theorem cs_nodeT_0 {b : cs_R} {k : Int} {P : Nat → Int} {r m a : Nat} {L : Nat → Int} : cs_nodeT H b k P r m a L 0 = b := cs_min_none b
theorem cs_nodeT_s {b : cs_R} {k : Int} {P : Nat → Int} {r m a : Nat} {L : Nat → Int} {n : Nat} : cs_nodeT H b k P r m a L (n + 1) = cs_min (cs_nodeT H b k P r m a L n) (cs_pre (k + cs_cost H a n) (fun j => if j = m then cs_code H n else P j) (m + 1) (cs_T H r (m + 1) n (cs_lk H L n m))) := by
  unfold cs_nodeT
  rw [cs_min_assoc]; rfl
theorem cs_nodeT_e {b : cs_R} {k : Int} {P : Nat → Int} {r m a : Nat} {L : Nat → Int} : cs_nodeT H b k P r m a L (cs_t H) = cs_min b (cs_pre k P m (cs_T H (r + 1) m a L)) := by
  unfold cs_nodeT
  congr 1
  show _ = cs_pre k P m (cs_fold _ _)
  rw [cs_pre_fold]
  congr 1
  funext i
  exact (cs_pre_add k (cs_cost H a i) (cs_code H i) P (fun j => if j = m then cs_code H i else P j) m _ (fun j hj => if_neg (by omega)) (if_pos rfl)).symm
end CB
end
section
/-! ===== the last months: all ways in their order ===== -/
theorem cs_fold_add {g : Nat → cs_R} {m : Nat} : ∀ n, cs_fold g (m + n) = cs_min (cs_fold g m) (cs_fold (fun i => g (m + i)) n)
  | 0 => (cs_min_none _).symm
  | n + 1 => by
    show cs_min (cs_fold g (m + n)) (g (m + n)) = cs_min (cs_fold g m) (cs_min (cs_fold (fun i => g (m + i)) n) (g (m + n)))
    rw [cs_fold_add n, cs_min_assoc]
theorem cs_fold_flat {g : Nat → cs_R} {n : Nat} : ∀ t, cs_fold (fun c => cs_fold (fun i => g (c * n + i)) n) t = cs_fold g (t * n)
  | 0 => by rw [Nat.zero_mul]; rfl
  | t + 1 => by
    show cs_min (cs_fold (fun c => cs_fold (fun i => g (c * n + i)) n) t) (cs_fold (fun i => g (t * n + i)) n) = _
    rw [cs_fold_flat t, Nat.succ_mul, cs_fold_add n]
theorem cs_fold_cg {f g : Nat → cs_R} : ∀ n, (∀ i, i < n → f i = g i) → cs_fold f n = cs_fold g n
  | 0, _ => rfl
  | n + 1, h => by
    show cs_min (cs_fold f n) (f n) = cs_min (cs_fold g n) (g n)
    rw [cs_fold_cg n (fun i hi => h i (by omega)), h n (by omega)]
theorem cs_add_min (k : Int) (m : Nat) (p : Int) (a b : cs_R) : cs_add k m p (cs_min a b) = cs_min (cs_add k m p a) (cs_add k m p b) := by
  cases a with
  | none => rfl
  | some x =>
    cases b with
    | none => rfl
    | some y =>
      show cs_add k m p (if y.1 < x.1 then some y else some x) = (if k + y.1 < k + x.1 then _ else _)
      by_cases c : y.1 < x.1
      · rw [if_pos c, if_pos (by omega)]; rfl
      · rw [if_neg c, if_neg (by omega)]; rfl
theorem cs_add_fold (k : Int) (m : Nat) (p : Int) (f : Nat → cs_R) : ∀ n, cs_add k m p (cs_fold f n) = cs_fold (fun i => cs_add k m p (f i)) n
  | 0 => rfl
  | n + 1 => by
    show cs_add k m p (cs_min _ _) = cs_min _ _
    rw [cs_add_min, cs_add_fold k m p f n]
section CT
variable (H : Nat → Int)
/-- of the i-th way of r months from m on: what it brings a town, what it costs behind its first place, its plan -/
def cw_g (k : Nat) : Nat → Nat → Nat → Int
  | 0, _, _ => 0
  | r + 1, m, i => cw_g k r (m + 1) (i % cs_t H ^ r) + (if k = i / cs_t H ^ r then cs_gain H k m else 0)
def cw_c : Nat → Nat → Int
  | 0, _ => 0
  | 1, _ => 0
  | r + 2, i => cw_c (r + 1) (i % cs_t H ^ (r + 1)) + cs_cost H (i / cs_t H ^ (r + 1)) (i % cs_t H ^ (r + 1) / cs_t H ^ r)
def cw_p : Nat → Nat → Nat → Nat → Int
  | 0, _, _, _ => 0
  | r + 1, m, i, j => if j = m then cs_code H (i / cs_t H ^ r) else cw_p r (m + 1) (i % cs_t H ^ r) j
def cw_m (L : Nat → Int) (r m i : Nat) : Prop := ∀ k, k < cs_t H → L k ≤ cw_g H k r m i
/-- its outcome from a place -/
noncomputable def cw_R (r m a : Nat) (L : Nat → Int) (i : Nat) : cs_R := @ite _ (cw_m H L (r + 1) m i) (Classical.propDecidable _) (some (cw_c H (r + 1) i + cs_cost H a (i / cs_t H ^ r), cw_p H (r + 1) m i)) none
end CT
section CV
variable {H : Nat → Int}
theorem cw_dv {t n i : Nat} (hi : i < n) : (t * n + i) / n = t ∧ (t * n + i) % n = i := by
  have hn : 0 < n := by omega
  constructor
  · rw [Nat.mul_comm, Nat.mul_add_div hn, Nat.div_eq_of_lt hi, Nat.add_zero]
  · rw [Nat.mul_comm, Nat.mul_add_mod, Nat.mod_eq_of_lt hi]
theorem cw_m_s {L : Nat → Int} {r m c i : Nat} (hi : i < cs_t H ^ r) : cw_m H L (r + 1) m (c * cs_t H ^ r + i) ↔ cw_m H (cs_lk H L c m) r (m + 1) i := by
  obtain ⟨e1, e2⟩ := cw_dv (t := c) hi
  unfold cw_m
  constructor
  · intro h k hk
    have h := h k hk
    have e : cw_g H k (r + 1) m (c * cs_t H ^ r + i) = cw_g H k r (m + 1) i + (if k = c then cs_gain H k m else 0) := by
      show cw_g H k r (m + 1) _ + (if k = _ / _ then _ else _) = _
      rw [e1, e2]
    rw [e] at h
    unfold cs_lk
    by_cases q : k = c
    · rw [if_pos q] at h ⊢; rw [← q]; omega
    · rw [if_neg q] at h ⊢; omega
  · intro h k hk
    have h := h k hk
    have e : cw_g H k (r + 1) m (c * cs_t H ^ r + i) = cw_g H k r (m + 1) i + (if k = c then cs_gain H k m else 0) := by
      show cw_g H k r (m + 1) _ + (if k = _ / _ then _ else _) = _
      rw [e1, e2]
    rw [e]
    unfold cs_lk at h
    by_cases q : k = c
    · rw [if_pos q] at h ⊢; rw [← q] at h; omega
    · rw [if_neg q] at h ⊢; omega
theorem cw_R_s {L : Nat → Int} {r m a c i : Nat} (hi : i < cs_t H ^ (r + 1)) : cs_add (cs_cost H a c) m (cs_code H c) (cw_R H r (m + 1) c (cs_lk H L c m) i) = cw_R H (r + 1) m a L (c * cs_t H ^ (r + 1) + i) := by
  obtain ⟨e1, e2⟩ := cw_dv (t := c) hi
  have hm := cw_m_s (H := H) (L := L) (m := m) (c := c) hi
  unfold cw_R
  by_cases q : cw_m H (cs_lk H L c m) (r + 1) (m + 1) i
  · rw [if_pos q, if_pos (hm.mpr q), e1]
    show some (cs_cost H a c + (cw_c H (r + 1) i + cs_cost H c (i / cs_t H ^ r)), _) = some (cw_c H (r + 1) ((c * cs_t H ^ (r + 1) + i) % cs_t H ^ (r + 1)) + cs_cost H ((c * cs_t H ^ (r + 1) + i) / cs_t H ^ (r + 1)) ((c * cs_t H ^ (r + 1) + i) % cs_t H ^ (r + 1) / cs_t H ^ r) + cs_cost H a c, _)
    rw [e1, e2]
    congr 1
    refine Prod.ext (by show cs_cost H a c + (cw_c H (r + 1) i + cs_cost H c (i / cs_t H ^ r)) = cw_c H (r + 1) i + cs_cost H c (i / cs_t H ^ r) + cs_cost H a c; omega) (funext fun j => ?_)
    show (if j = m then cs_code H c else cw_p H (r + 1) (m + 1) i j) = (if j = m then cs_code H ((c * cs_t H ^ (r + 1) + i) / cs_t H ^ (r + 1)) else cw_p H (r + 1) (m + 1) ((c * cs_t H ^ (r + 1) + i) % cs_t H ^ (r + 1)) j)
    rw [e1, e2]
  · rw [if_neg q, if_neg (fun z => q (hm.mp z))]; rfl
/-- the last months by their list -/
theorem cw_all : ∀ (r m a : Nat) (L : Nat → Int), cs_T H (r + 1) m a L = cs_fold (cw_R H r m a L) (cs_t H ^ (r + 1))
  | 0, m, a, L => by
    show cs_fold (fun c => cs_add (cs_cost H a c) m (cs_code H c) (cs_T H 0 (m + 1) c (cs_lk H L c m))) (cs_t H) = cs_fold _ (cs_t H ^ 1)
    rw [Nat.pow_one]
    refine cs_fold_cg _ (fun c hc => ?_)
    have hm : cw_m H L (0 + 1) m c ↔ cw_m H (cs_lk H L c m) 0 (m + 1) 0 := by
      have h1 := cw_m_s (H := H) (L := L) (r := 0) (m := m) (c := c) (i := 0) (by rw [Nat.pow_zero]; omega)
      rwa [Nat.pow_zero, Nat.mul_one, Nat.add_zero c] at h1
    have h0 : cw_m H (cs_lk H L c m) 0 (m + 1) 0 ↔ cs_met H (cs_lk H L c m) := Iff.rfl
    unfold cw_R cs_T
    by_cases q : cs_met H (cs_lk H L c m)
    · rw [if_pos q, if_pos (hm.mpr (h0.mpr q)), Nat.pow_zero, Nat.div_one]
      show some (cs_cost H a c + 0, _) = some (0 + cs_cost H a c, _)
      congr 1
      refine Prod.ext (by show cs_cost H a c + 0 = 0 + cs_cost H a c; omega) (funext fun j => ?_)
      show (if j = m then cs_code H c else 0) = (if j = m then cs_code H (c / cs_t H ^ 0) else 0)
      rw [Nat.pow_zero, Nat.div_one]
    · rw [if_neg q, if_neg (fun z => q (h0.mp (hm.mp z)))]; rfl
  | r + 1, m, a, L => by
    show cs_fold (fun c => cs_add (cs_cost H a c) m (cs_code H c) (cs_T H (r + 1) (m + 1) c (cs_lk H L c m))) (cs_t H) = _
    rw [show cs_t H ^ (r + 1 + 1) = cs_t H * cs_t H ^ (r + 1) by rw [Nat.pow_succ, Nat.mul_comm], ← cs_fold_flat]
    refine cs_fold_cg _ (fun c hc => ?_)
    show cs_add (cs_cost H a c) m (cs_code H c) (cs_T H (r + 1) (m + 1) c (cs_lk H L c m)) = _
    rw [cw_all r (m + 1) c, cs_add_fold]
    exact cs_fold_cg _ (fun i hi => cw_R_s hi)
/-- a search through the list, from a best so far -/
noncomputable def cw_run (b : cs_R) (k : Int) (P : Nat → Int) (r m a : Nat) (L : Nat → Int) (n : Nat) : cs_R := cs_min b (cs_fold (fun i => cs_pre k P m (cw_R H r m a L i)) n)
theorem cw_run_0 {b : cs_R} {k : Int} {P : Nat → Int} {r m a : Nat} {L : Nat → Int} : cw_run (H := H) b k P r m a L 0 = b := cs_min_none b
theorem cw_run_s {b : cs_R} {k : Int} {P : Nat → Int} {r m a : Nat} {L : Nat → Int} {n : Nat} : cw_run (H := H) b k P r m a L (n + 1) = cs_min (cw_run (H := H) b k P r m a L n) (cs_pre k P m (cw_R H r m a L n)) := by
  unfold cw_run
  rw [cs_min_assoc]; rfl
theorem cw_run_e {b : cs_R} {k : Int} {P : Nat → Int} {r m a : Nat} {L : Nat → Int} : cw_run (H := H) b k P r m a L (cs_t H ^ (r + 1)) = cs_min b (cs_pre k P m (cs_T H (r + 1) m a L)) := by
  unfold cw_run
  rw [cw_all, cs_pre_fold]
end CV
section CW
variable {H : Nat → Int}
/-- the number of a way tells its towns, the last month's first -/
theorem cw_p_d : ∀ (r m i q : Nat), q ≤ r → i < cs_t H ^ (r + 1) → cw_p H (r + 1) m i (m + q) = cs_code H (i / cs_t H ^ (r - q) % cs_t H)
  | r, m, i, 0, _, h => by
    rw [Nat.add_zero, Nat.sub_zero]
    show (if m = m then cs_code H (i / cs_t H ^ r) else _) = _
    rw [if_pos rfl, Nat.mod_eq_of_lt (Nat.div_lt_of_lt_mul (show i < cs_t H ^ r * cs_t H by rw [← Nat.pow_succ]; exact h))]
  | 0, m, i, q + 1, hq, _ => absurd hq (by omega)
  | r + 1, m, i, q + 1, hq, h => by
    have hp : 0 < cs_t H ^ (r + 1) := Nat.pos_of_ne_zero (fun z => by rw [Nat.pow_succ, z, Nat.zero_mul] at h; exact absurd h (Nat.not_lt_zero _))
    show (if m + (q + 1) = m then cs_code H (i / cs_t H ^ (r + 1)) else cw_p H (r + 1) (m + 1) (i % cs_t H ^ (r + 1)) (m + (q + 1))) = _
    rw [if_neg (by omega), show m + (q + 1) = m + 1 + q by omega, cw_p_d r (m + 1) (i % cs_t H ^ (r + 1)) q (by omega) (Nat.mod_lt _ hp), show r + 1 - (q + 1) = r - q by omega]
    have e : cs_t H ^ (r + 1) = cs_t H ^ (r - q) * cs_t H ^ (q + 1) := by rw [← Nat.pow_add, show r - q + (q + 1) = r + 1 by omega]
    rw [e, Nat.mod_mul_right_div_self, Nat.mod_mod_of_dvd _ ⟨cs_t H ^ q, by rw [Nat.pow_succ, Nat.mul_comm]⟩]
theorem cw_p_o : ∀ (r m i j : Nat), j < m → cw_p H r m i j = 0
  | 0, _, _, _, _ => rfl
  | r + 1, m, i, j, h => by
    show (if j = m then _ else cw_p H r (m + 1) (i % cs_t H ^ r) j) = 0
    rw [if_neg (by omega)]
    exact cw_p_o r (m + 1) _ j (by omega)
theorem cw_pow (h1 : 1 ≤ cs_t H) (h3 : cs_t H ≤ 3) : cs_t H ^ 1 ≤ 3 ∧ cs_t H ^ 2 ≤ 9 ∧ cs_t H ^ 3 ≤ 27 ∧ cs_t H ^ 4 ≤ 81 := ⟨Nat.pow_le_pow_left h3 1, Nat.pow_le_pow_left h3 2, Nat.pow_le_pow_left h3 3, Nat.pow_le_pow_left h3 4⟩
theorem cw_c_0 (h : cs_ok H) : ∀ (r i : Nat), 0 ≤ cw_c H r i
  | 0, _ => Int.le_refl _
  | 1, _ => Int.le_refl _
  | r + 2, i => by
    have h1 := cw_c_0 h (r + 1) (i % cs_t H ^ (r + 1))
    have h2 := cs_cost_0 h (i / cs_t H ^ (r + 1)) (i % cs_t H ^ (r + 1) / cs_t H ^ r)
    show 0 ≤ cw_c H (r + 1) (i % cs_t H ^ (r + 1)) + cs_cost H (i / cs_t H ^ (r + 1)) (i % cs_t H ^ (r + 1) / cs_t H ^ r)
    omega
end CW
end
section
/-! ===== rows that were wanting ===== -/
section WY
variable {d : Nat} {full : List mj_E} {Q : mj_P} {rest : List mj_E} {L : mj_L} {st : List mj_V} {G : mj_G} {M : mj_M} {cb sb pc : Nat} {aux : List Nat} {im : Int}
theorem w_ldc {k : Nat} (kk : wz d full Q rest L (.inl im :: st) G M cb sb) : wz d full Q ((.ldc k, pc, aux, im) :: rest) L st G M cb sb := wz_st kk
theorem w_ldcw {k : Nat} (kk : wz d full Q rest L (.inl im :: st) G M cb sb) : wz d full Q ((.ldc_w k, pc, aux, im) :: rest) L st G M cb sb := wz_st kk
theorem w_neg {x : Int} (hi : mj_in x) (hx : x ≠ -2147483648) (kk : wz d full Q rest L (.inl (-x) :: st) G M cb sb) : wz d full Q ((.ineg, pc, aux, im) :: rest) L (.inl x :: st) G M cb sb := wz_st (fun z hz e => by
  have e : z = (-(Int32.ofInt x)).toInt := e
  have h := hi
  have e2 : z = -x := by
    rw [e, Int32.toInt_neg, mj_ti hi]
    exact ab_bm1 (by have := h.2; omega) (by have := h.1; omega)
  rw [e2]; exact kk)
theorem w_abs {w k : Nat} {x : Int} (h8 : mj_cat st ≤ 8) (kk : ∀ z, (0 ≤ x → z = x) → (x < 0 → x ≠ -2147483648 → z = -x) → wz d full Q rest L (.inl z :: st) G M cb sb) : wz d full Q ((.invokestatic k, pc, [2, w], im) :: rest) L (.inl x :: st) G M cb sb := wz_st ⟨h8, fun z _ h1 h2 => kk z h1 h2⟩
theorem w_div {x y : Int} (hy : y ≠ 0) (kk : ∀ z, mj_in z → z = (Int32.ofInt x / Int32.ofInt y).toInt → wz d full Q rest L (.inl z :: st) G M cb sb) : wz d full Q ((.idiv, pc, aux, im) :: rest) L (.inl y :: .inl x :: st) G M cb sb := wz_st ⟨hy, kk⟩
end WY
/-! ===== the cheapest letting: numbers' facts ===== -/
theorem cp_up {M : mj_M} {a j n : Nat} {v : Int} {F : Nat → Int} (h : ∀ k, k < n → M.1 a k = F k) : ∀ k, k < n → (mj_p0 M a j v).1 a k = rv_up F j v k := fun k hk => by
  by_cases e : k = j
  · rw [e, rv_up_s]; exact hn_s
  · rw [rv_up_n e]; exact (hn_n (Or.inr e)).trans (h k hk)
section CX
variable {H : Nat → Int}
theorem cs_rt (h : rv_r4 H 0) {j : Nat} (h1 : 4 ≤ j) (h2 : j < 76) : 0 ≤ H j ∧ H j ≤ 999 := by
  have := h.2.2.2.2.1 ((j - 4) / 9) ((j - 4) % 9) (by omega) (by omega)
  rw [show 0 + (4 + 9 * ((j - 4) / 9) + (j - 4) % 9) = j by omega] at this; exact ⟨this.1, this.2.1⟩
theorem cs_rw (h : rv_r4 H 0) {j : Nat} (h1 : 76 ≤ j) (h2 : j < 88) : 0 ≤ H j ∧ H j ≤ 999 := by
  have := h.2.2.2.2.2 (j - 76) (by omega)
  rw [show 0 + (76 + (j - 76)) = j by omega] at this; exact this
theorem cs_r1 (h : rv_r4 H 0) : 0 ≤ H 1 ∧ H 1 ≤ 99 := h.2.1
theorem cs_te (h : rv_r4 H 0) : ((cs_t H : Nat) : Int) = H 0 := by
  have := h.1
  unfold cs_t; omega
theorem cs_oke (h : rv_r4 H 0) : cs_ok H := ⟨(cs_r1 h).1, fun k hk => by
  have e := cs_te h
  have := h.1
  exact (cs_rt h (by omega) (by omega)).1⟩
theorem cs_gain_i {k m : Int} (k0 : 0 ≤ k) (m0 : 0 ≤ m) : cs_gain H k.toNat m.toNat = if H (9 * k + 4).toNat < H (m + 76).toNat then H (m + 76).toNat - H (9 * k + 4).toNat else 0 := by
  unfold cs_gain
  rw [show 4 + 9 * k.toNat = (9 * k + 4).toNat by omega, show 76 + m.toNat = (m + 76).toNat by omega]
theorem cs_gain_9 (h : rv_r4 H 0) {k m : Nat} (hk : k < 8) (hm : m < 12) : 0 ≤ cs_gain H k m ∧ cs_gain H k m ≤ 999 := by
  have a := cs_rt h (j := 4 + 9 * k) (by omega) (by omega)
  have b := cs_rw h (j := 76 + m) (by omega) (by omega)
  unfold cs_gain; split <;> omega
theorem cs_all_9 (h : rv_r4 H 0) {k : Nat} (hk : k < 8) : ∀ (r m : Nat), m + r ≤ 12 → 0 ≤ cs_all H k r m ∧ cs_all H k r m ≤ 999 * r
  | 0, _, _ => ⟨Int.le_refl _, Int.le_refl _⟩
  | r + 1, m, e => by
    have h1 := cs_all_9 h hk r (m + 1) (by omega)
    have h2 := cs_gain_9 h hk (show m < 12 by omega)
    show 0 ≤ cs_gain H k m + cs_all H k r (m + 1) ∧ cs_gain H k m + cs_all H k r (m + 1) ≤ _
    omega
theorem cs_mul_b {u z : Int} (u0 : 0 ≤ u) (u9 : u ≤ 99) {n : Int} (z0 : 0 ≤ z) (zn : z ≤ n) : 0 ≤ u * z ∧ u * z ≤ 99 * n := ⟨Int.mul_nonneg u0 z0, Int.mul_le_mul u9 zn z0 (by decide)⟩
theorem cs_d_3 {a b n : Nat} (ha : a ≤ n) (hb : b ≤ n) : cs_d a b ≤ n := by
  unfold cs_d; split <;> omega
theorem cs_cost_9 (h : rv_r4 H 0) (h3 : H 0 ≤ 3) {a b : Nat} (ha : a ≤ cs_t H) (hb : b ≤ cs_t H) : 0 ≤ cs_cost H a b ∧ cs_cost H a b ≤ 1296 := by
  have e := cs_te h
  have h1 := cs_r1 h
  have d3 := cs_d_3 ha hb
  have m1 := cs_mul_b h1.1 h1.2 (cs_d_0 a b) (n := 3) (by omega)
  unfold cs_cost
  by_cases c : b < cs_t H ∧ a ≠ b
  · have := cs_rt h (j := 10 + 9 * b) (by omega) (by omega)
    rw [if_pos c]; omega
  · rw [if_neg c]; omega
theorem cs_cost_i {a b : Nat} {z v : Int} (hz : z = cs_d a b) (hv : v = if b < cs_t H ∧ a ≠ b then H (10 + 9 * b) else 0) : H 1 * z + v = cs_cost H a b := by
  subst hz; subst hv; rfl
/-- a place as a plan tells it -/
def cs_pc (H : Nat → Int) (z : Int) : Int := if z = H 0 then 8 else z
theorem cs_pc_i (h : rv_r4 H 0) {z : Int} (hz : 0 ≤ z) : cs_pc H z = cs_code H z.toNat := by
  have e := cs_te h
  unfold cs_pc cs_code
  by_cases c : z = H 0
  · rw [if_pos c, if_pos (by omega)]
  · rw [if_neg c, if_neg (by omega)]; omega
theorem cs_pc_n (h : rv_r4 H 0) (n : Nat) : cs_pc H (n : Int) = cs_code H n := cs_pc_i h (Int.natCast_nonneg n)
theorem cs_S_cg : ∀ (r m a : Nat) (L L' : Nat → Int), (∀ k, k < cs_t H → L k = L' k) → cs_S H r m a L = cs_S H r m a L'
  | 0, m, a, L, L', h => by
    have e : cs_met H L ↔ cs_met H L' := ⟨fun q k hk => by rw [← h k hk]; exact q k hk, fun q k hk => by rw [h k hk]; exact q k hk⟩
    unfold cs_S
    by_cases c : cs_met H L
    · rw [if_pos c, if_pos (e.mp c)]
    · rw [if_neg c, if_neg (fun z => c (e.mpr z))]
  | r + 1, m, a, L, L', h => by
    show cs_fold _ _ = cs_fold _ _
    refine cs_fold_cg _ (fun c hc => ?_)
    show cs_add _ _ _ (cs_S H r (m + 1) c (cs_lk H L c m)) = cs_add _ _ _ (cs_S H r (m + 1) c (cs_lk H L' c m))
    rw [cs_S_cg r (m + 1) c (cs_lk H L c m) (cs_lk H L' c m) (fun k hk => by unfold cs_lk; rw [h k hk])]
theorem cs_pre_cg {k : Int} {P P' : Nat → Int} {m : Nat} {a : cs_R} (h : ∀ j, j < m → P j = P' j) : cs_pre k P m a = cs_pre k P' m a := by
  cases a with
  | none => rfl
  | some x =>
    show some (k + x.1, _) = some (k + x.1, _)
    congr 1
    refine Prod.ext rfl (funext fun j => ?_)
    show (if j < m then P j else x.2 j) = (if j < m then P' j else x.2 j)
    by_cases e : j < m
    · rw [if_pos e, if_pos e, h j e]
    · rw [if_neg e, if_neg e]
/-- a best so far in numbers (far: none; then the plan is as it was) -/
def cs_N (far : Int) (P0 : Nat → Int) (b : cs_R) (best : Int) (PL : Nat → Int) : Prop := match b with
  | none => best = far ∧ ∀ j, j < 12 → PL j = P0 j
  | some x => x.1 = best ∧ 0 ≤ best ∧ best < far ∧ ∀ j, j < 12 → PL j = x.2 j
theorem cs_N.b {far : Int} {P0 : Nat → Int} {b : cs_R} {best : Int} {PL : Nat → Int} (h : cs_N far P0 b best PL) (h0 : 0 ≤ far) : 0 ≤ best ∧ best ≤ far := by
  cases b with
  | none => have h : best = far := h.1; omega
  | some x => obtain ⟨-, h1, h2, -⟩ := h; omega
theorem cs_N.le {far : Int} {P0 : Nat → Int} {b : cs_R} {best k : Int} {PL : Nat → Int} (h : cs_N far P0 b best PL) (hk : best ≤ k) (hf : k < far) : cs_le b k := by
  cases b with
  | none => have h : best = far := h.1; omega
  | some x => exact ⟨x, rfl, by rw [h.1]; exact hk⟩
theorem cs_N.cg {far : Int} {P0 : Nat → Int} {b : cs_R} {best : Int} {PL PL' : Nat → Int} (h : cs_N far P0 b best PL) (e : ∀ j, j < 12 → PL' j = PL j) : cs_N far P0 b best PL' := by
  cases b with
  | none => exact ⟨h.1, fun j hj => (e j hj).trans (h.2 j hj)⟩
  | some x => exact ⟨h.1, h.2.1, h.2.2.1, fun j hj => (e j hj).trans (h.2.2.2 j hj)⟩
/-- a better one is taken -/
theorem cs_N.tk {far : Int} {P0 : Nat → Int} {b : cs_R} {best k : Int} {PL : Nat → Int} (h : cs_N far P0 b best PL) (x : Int × (Nat → Int)) (e : x.1 = k) (hk : k < best) : cs_min b (some x) = some x := by
  cases b with
  | none => rfl
  | some y =>
    have := h.1
    exact if_pos (by omega)
end CX
end
section
/-! ===== the cheapest letting: the reference (laid by a program) ===== -/
def cp_GR (G : mj_G) (w : Nat → Nat) : Prop := G (w 345) = (58100, 13) ∧ G (w 346) = (59100, 13) ∧ G (w 347) = (60100, 39) ∧ G (w 348) = (61100, 12)
def cp_BR (M : mj_M) (w : Nat → Nat) (m : Nat) : Prop := M.2.2 m 35 = some (w 345) ∧ M.2.2 m 36 = some (w 346) ∧ M.2.2 m 37 = some (w 347) ∧ M.2.2 m 38 = some (w 348)
abbrev cr_ne (w : Nat → Nat) (a : Nat) : Prop := a ≠ w 345 ∧ a ≠ w 346 ∧ a ≠ w 347 ∧ a ≠ w 348
def cr_C (w : Nat → Nat) (M0 : mj_M) (TR CO HA PL : Nat → Int) (M : mj_M) : Prop := M.2 = M0.2 ∧ (∀ a, cr_ne w a → M.1 a = M0.1 a) ∧ (∀ k, k < 13 → M.1 (w 345) k = TR k) ∧ (∀ k, k < 13 → M.1 (w 346) k = CO k) ∧ (∀ k, k < 39 → M.1 (w 347) k = HA k) ∧ (∀ k, k < 12 → M.1 (w 348) k = PL k)
section CR
variable {G : mj_G} {w : Nat → Nat} {M0 M : mj_M} {TR CO HA PL : Nat → Int} {j a k b s m : Nat} {v z : Int}
theorem cr_C.re : cr_C w M (M.1 (w 345)) (M.1 (w 346)) (M.1 (w 347)) (M.1 (w 348)) M := ⟨rfl, fun _ _ => rfl, fun _ _ => rfl, fun _ _ => rfl, fun _ _ => rfl, fun _ _ => rfl⟩
theorem cr_C.r (h : cr_C w M0 TR CO HA PL M) (e : M0.2.2 a k = some b) : M.2.2 a k = some b := by rw [h.1]; exact e
theorem cr_C.sj (h : cr_C w M0 TR CO HA PL M) (gr : cp_GR G w) (gs : G s = (51100, 537)) : M.1 s j = M0.1 s j := by
  rw [h.2.1 s ⟨hn_ne gs gr.1 (by decide), hn_ne gs gr.2.1 (by decide), hn_ne gs gr.2.2.1 (by decide), hn_ne gs gr.2.2.2 (by decide)⟩]
theorem cr_C.mj (h : cr_C w M0 TR CO HA PL M) (gr : cp_GR G w) (gm : G m = (1012, 0)) : M.1 m j = M0.1 m j := by
  rw [h.2.1 m ⟨hn_ne gm gr.1 (by decide), hn_ne gm gr.2.1 (by decide), hn_ne gm gr.2.2.1 (by decide), hn_ne gm gr.2.2.2 (by decide)⟩]
theorem cr_C.h5 (h : cr_C w M0 TR CO HA PL M) (gr : cp_GR G w) : cr_C w M0 (rv_up TR j v) CO HA PL (mj_p0 M (w 345) j v) :=
  ⟨h.1, fun a n => (wz_c n.1).trans (h.2.1 a n), cp_up h.2.2.1, fun k hk => (hn_n (Or.inl (hn_ne gr.2.1 gr.1 (by decide)))).trans (h.2.2.2.1 k hk), fun k hk => (hn_n (Or.inl (hn_ne gr.2.2.1 gr.1 (by decide)))).trans (h.2.2.2.2.1 k hk), fun k hk => (hn_n (Or.inl (hn_ne gr.2.2.2 gr.1 (by decide)))).trans (h.2.2.2.2.2 k hk)⟩
theorem cr_C.h6 (h : cr_C w M0 TR CO HA PL M) (gr : cp_GR G w) : cr_C w M0 TR (rv_up CO j v) HA PL (mj_p0 M (w 346) j v) :=
  ⟨h.1, fun a n => (wz_c n.2.1).trans (h.2.1 a n), fun k hk => (hn_n (Or.inl (hn_ne gr.1 gr.2.1 (by decide)))).trans (h.2.2.1 k hk), cp_up h.2.2.2.1, fun k hk => (hn_n (Or.inl (hn_ne gr.2.2.1 gr.2.1 (by decide)))).trans (h.2.2.2.2.1 k hk), fun k hk => (hn_n (Or.inl (hn_ne gr.2.2.2 gr.2.1 (by decide)))).trans (h.2.2.2.2.2 k hk)⟩
theorem cr_C.h7 (h : cr_C w M0 TR CO HA PL M) (gr : cp_GR G w) : cr_C w M0 TR CO (rv_up HA j v) PL (mj_p0 M (w 347) j v) :=
  ⟨h.1, fun a n => (wz_c n.2.2.1).trans (h.2.1 a n), fun k hk => (hn_n (Or.inl (hn_ne gr.1 gr.2.2.1 (by decide)))).trans (h.2.2.1 k hk), fun k hk => (hn_n (Or.inl (hn_ne gr.2.1 gr.2.2.1 (by decide)))).trans (h.2.2.2.1 k hk), cp_up h.2.2.2.2.1, fun k hk => (hn_n (Or.inl (hn_ne gr.2.2.2 gr.2.2.1 (by decide)))).trans (h.2.2.2.2.2 k hk)⟩
theorem cr_C.h8 (h : cr_C w M0 TR CO HA PL M) (gr : cp_GR G w) : cr_C w M0 TR CO HA (rv_up PL j v) (mj_p0 M (w 348) j v) :=
  ⟨h.1, fun a n => (wz_c n.2.2.2).trans (h.2.1 a n), fun k hk => (hn_n (Or.inl (hn_ne gr.1 gr.2.2.2 (by decide)))).trans (h.2.2.1 k hk), fun k hk => (hn_n (Or.inl (hn_ne gr.2.1 gr.2.2.2 (by decide)))).trans (h.2.2.2.1 k hk), fun k hk => (hn_n (Or.inl (hn_ne gr.2.2.1 gr.2.2.2 (by decide)))).trans (h.2.2.2.2.1 k hk), cp_up h.2.2.2.2.2⟩
end CR
/-- whether what months can bring is enough, town by town -/
def cs_cb (H HA : Nat → Int) (m : Nat) : Nat → Nat → Int
  | 0, _ => 1
  | n + 1, k => if HA (3 * m + k) + cs_all H k (12 - m) m < H (8 + 9 * k) then 0 else cs_cb H HA m n (k + 1)
theorem cs_cb_s {H HA : Nat → Int} {m : Nat} : ∀ n k, (cs_cb H HA m n k = 1 ∧ ∀ q, k ≤ q → q < k + n → H (8 + 9 * q) ≤ HA (3 * m + q) + cs_all H q (12 - m) m) ∨ (cs_cb H HA m n k = 0 ∧ ∃ q, k ≤ q ∧ q < k + n ∧ HA (3 * m + q) + cs_all H q (12 - m) m < H (8 + 9 * q))
  | 0, k => Or.inl ⟨rfl, fun q h1 h2 => absurd h2 (by omega)⟩
  | n + 1, k => by
    by_cases c : HA (3 * m + k) + cs_all H k (12 - m) m < H (8 + 9 * k)
    · exact Or.inr ⟨if_pos c, k, Nat.le_refl _, by omega, c⟩
    · have e : cs_cb H HA m (n + 1) k = cs_cb H HA m n (k + 1) := if_neg c
      rw [e]
      rcases cs_cb_s (H := H) (HA := HA) (m := m) n (k + 1) with ⟨e1, h1⟩ | ⟨e1, q, h1, h2, h3⟩
      · refine Or.inl ⟨e1, fun q a b => ?_⟩
        by_cases e2 : q = k
        · subst e2; omega
        · exact h1 q (by omega) (by omega)
      · exact Or.inr ⟨e1, q, by omega, by omega, h3⟩
theorem r_ci {G : mj_G} {M0 : mj_M} {m s : Nat} {w : Nat → Nat} {Q : mj_P} {d : Nat} (gr : cp_GR G w) (br : cp_BR M0 w m) (gm : G m = (1012, 0)) (gs : G s = (51100, 537)) (m6 : M0.2.2 m 6 = some s) (hr : rv_r4 (M0.1 s) 0) (t1 : 1 ≤ M0.1 s 0) (t3 : M0.1 s 0 ≤ 3) {M : mj_M} {TR CO HA PL : Nat → Int} (hC : cr_C w M0 TR CO HA PL M) {k mi : Int} (k0 : 0 ≤ k) (k3 : k < 3) : ∀ (n : Nat) (i sum : Int) (cb sb : Nat), i + n = 12 → 0 ≤ i → 0 ≤ sum → sum ≤ 20000 + 999 * i → (∀ (z : Int) (cb sb : Nat), z = sum + cs_all (M0.1 s) k.toNat n i.toNat → wz (d + 2) mt_X12_canBe.2.2.2.2.1 Q (mt_X12_canBe.2.2.2.2.1.drop 31) [some (.inr (.inr (some m))), some (.inl mi), some (.inl k), some (.inl z), some (.inl 12)] [] G M cb sb) → wz (d + 2) mt_X12_canBe.2.2.2.2.1 Q (mt_X12_canBe.2.2.2.2.1.drop 19) [some (.inr (.inr (some m))), some (.inl mi), some (.inl k), some (.inl sum), some (.inl i)] [] G M cb sb := by
  have et := cs_te hr
  have b1 := cs_r1 hr
  have a := cs_rt hr (j := (9 * k + 4).toNat) (by omega) (by omega)
  intro n
  induction n with
  | zero =>
    intro i sum cb sb e i0 s0 s1 h
    obtain rfl : i = 12 := by omega
    refine w_il rfl ?_
    refine w_bp ?_
    refine w_cmge (fun c1 => ?_) (fun c1 => ?_)
    · skip
      exact h _ _ _ (by show sum = sum + 0; omega)
    · exfalso; omega
  | succ n ih =>
    intro i sum cb sb e i0 s0 s1 h
    have b := cs_rw hr (j := (i + 76).toNat) (by omega) (by omega)
    have e8 : cs_all (M0.1 s) k.toNat (n + 1) i.toNat = cs_gain (M0.1 s) k.toNat i.toNat + cs_all (M0.1 s) k.toNat n (i + 1).toNat := by
      show _ + cs_all _ _ n (i.toNat + 1) = _
      rw [show i.toNat + 1 = (i + 1).toNat by omega]
    refine w_il rfl ?_
    refine w_bp ?_
    refine w_cmge (fun c1 => ?_) (fun c1 => ?_)
    · exfalso; omega
    · skip
      refine w_iln rfl ?_
      refine w_aln rfl ?_
      refine w_iln rfl ?_
      refine w_il rfl ?_
      refine w_cv (st := [.inl sum]) rfl gm rfl (Nat.le_of_ble_eq_true rfl) (fun kk h => h) ⟨Nat.le_of_ble_eq_true rfl, ?_⟩
      show wz (d + 1) mt_X12_gains.2.2.2.2.1 _ mt_X12_gains.2.2.2.2.1 [some (.inr (.inr (some m))), some (.inl k), some (.inl i)] [] _ _ _ _
      refine w_aln rfl ?_
      refine w_gr gm rfl (by decide) rfl (hC.r (m6)) ?_
      refine w_bp ?_
      refine w_iln rfl ?_
      refine w_add ⟨by show (-2147483648 : Int) ≤ 76 + i; omega, by show 76 + i < (2147483648 : Int); omega⟩ ?_
      refine w_iald (v := (M0.1 s (i + 76).toNat)) gs rfl (by show (0 : Int) ≤ 76 + i; omega) (by show 76 + i < ((537 : Nat) : Int); omega) ((hC.sj gr gs).trans (congrArg (M0.1 s) (by show (76 + i).toNat = (i + 76).toNat; omega))) ?_
      refine w_aln rfl ?_
      refine w_iln rfl ?_
      refine w_ic ?_
      refine w_cv (st := [.inl (M0.1 s (i + 76).toNat)]) rfl gm rfl (Nat.le_of_ble_eq_true rfl) (fun kk h => h) ⟨Nat.le_of_ble_eq_true rfl, ?_⟩
      show wz (d) mt_X12_toldOf.2.2.2.2.1 _ mt_X12_toldOf.2.2.2.2.1 [some (.inr (.inr (some m))), some (.inl k), some (.inl 0)] [] _ _ _ _
      refine w_aln rfl ?_
      refine w_gr gm rfl (by decide) rfl (hC.r (m6)) ?_
      refine w_ic ?_
      refine w_bp ?_
      refine w_iln rfl ?_
      refine w_mul ⟨by show (-2147483648 : Int) ≤ 9 * k; omega, by show 9 * k < (2147483648 : Int); omega⟩ ?_
      refine w_add ⟨by show (-2147483648 : Int) ≤ 4 + (9 * k); omega, by show 4 + (9 * k) < (2147483648 : Int); omega⟩ ?_
      refine w_iln rfl ?_
      refine w_add ⟨by show (-2147483648 : Int) ≤ (4 + (9 * k)) + 0; omega, by show (4 + (9 * k)) + 0 < (2147483648 : Int); omega⟩ ?_
      refine w_iald (v := (M0.1 s (9 * k + 4).toNat)) gs rfl (by show (0 : Int) ≤ (4 + (9 * k)) + 0; omega) (by show (4 + (9 * k)) + 0 < ((537 : Nat) : Int); omega) ((hC.sj gr gs).trans (congrArg (M0.1 s) (by show ((4 + (9 * k)) + 0).toNat = (9 * k + 4).toNat; omega))) ?_
      refine w_iret (fun q => by cases q) ?_
      refine w_cmle (fun c2 => ?_) (fun c2 => ?_)
      · skip
        refine w_ic ?_
        refine w_iret (fun q => by cases q) ?_
        refine w_add ⟨by show (-2147483648 : Int) ≤ sum + 0; omega, by show sum + 0 < (2147483648 : Int); omega⟩ ?_
        refine w_isn ?_
        show wz _ _ _ _ [some (.inr (.inr (some m))), some (.inl mi), some (.inl k), some (.inl (sum + 0)), some (.inl i)] _ _ _ _ _
        refine w_ii rfl ⟨by show (-2147483648 : Int) ≤ i + 1; omega, by show i + 1 < (2147483648 : Int); omega⟩ ?_
        show wz _ _ _ _ [some (.inr (.inr (some m))), some (.inl mi), some (.inl k), some (.inl (sum + 0)), some (.inl (i + 1))] _ _ _ _ _
        refine w_goto ?_
        have eg : sum + cs_gain (M0.1 s) k.toNat i.toNat = sum + 0 := by
          rw [cs_gain_i k0 i0, if_neg (by omega)]
        rw [e8] at h
        exact ih (i + 1) _ _ _ (by omega) (by omega) (by omega) (by omega) (fun z cb sb ez => h z cb sb (by omega))
      · skip
        refine w_aln rfl ?_
        refine w_gr gm rfl (by decide) rfl (hC.r (m6)) ?_
        refine w_bp ?_
        refine w_iln rfl ?_
        refine w_add ⟨by show (-2147483648 : Int) ≤ 76 + i; omega, by show 76 + i < (2147483648 : Int); omega⟩ ?_
        refine w_iald (v := (M0.1 s (i + 76).toNat)) gs rfl (by show (0 : Int) ≤ 76 + i; omega) (by show 76 + i < ((537 : Nat) : Int); omega) ((hC.sj gr gs).trans (congrArg (M0.1 s) (by show (76 + i).toNat = (i + 76).toNat; omega))) ?_
        refine w_aln rfl ?_
        refine w_iln rfl ?_
        refine w_ic ?_
        refine w_cv (st := [.inl (M0.1 s (i + 76).toNat)]) rfl gm rfl (Nat.le_of_ble_eq_true rfl) (fun kk h => h) ⟨Nat.le_of_ble_eq_true rfl, ?_⟩
        show wz (d) mt_X12_toldOf.2.2.2.2.1 _ mt_X12_toldOf.2.2.2.2.1 [some (.inr (.inr (some m))), some (.inl k), some (.inl 0)] [] _ _ _ _
        refine w_aln rfl ?_
        refine w_gr gm rfl (by decide) rfl (hC.r (m6)) ?_
        refine w_ic ?_
        refine w_bp ?_
        refine w_iln rfl ?_
        refine w_mul ⟨by show (-2147483648 : Int) ≤ 9 * k; omega, by show 9 * k < (2147483648 : Int); omega⟩ ?_
        refine w_add ⟨by show (-2147483648 : Int) ≤ 4 + (9 * k); omega, by show 4 + (9 * k) < (2147483648 : Int); omega⟩ ?_
        refine w_iln rfl ?_
        refine w_add ⟨by show (-2147483648 : Int) ≤ (4 + (9 * k)) + 0; omega, by show (4 + (9 * k)) + 0 < (2147483648 : Int); omega⟩ ?_
        refine w_iald (v := (M0.1 s (9 * k + 4).toNat)) gs rfl (by show (0 : Int) ≤ (4 + (9 * k)) + 0; omega) (by show (4 + (9 * k)) + 0 < ((537 : Nat) : Int); omega) ((hC.sj gr gs).trans (congrArg (M0.1 s) (by show ((4 + (9 * k)) + 0).toNat = (9 * k + 4).toNat; omega))) ?_
        refine w_iret (fun q => by cases q) ?_
        refine w_sub ⟨by show (-2147483648 : Int) ≤ (M0.1 s (i + 76).toNat) - (M0.1 s (9 * k + 4).toNat); omega, by show (M0.1 s (i + 76).toNat) - (M0.1 s (9 * k + 4).toNat) < (2147483648 : Int); omega⟩ ?_
        refine w_goto ?_
        refine w_iret (fun q => by cases q) ?_
        refine w_add ⟨by show (-2147483648 : Int) ≤ sum + ((M0.1 s (i + 76).toNat) - (M0.1 s (9 * k + 4).toNat)); omega, by show sum + ((M0.1 s (i + 76).toNat) - (M0.1 s (9 * k + 4).toNat)) < (2147483648 : Int); omega⟩ ?_
        refine w_isn ?_
        show wz _ _ _ _ [some (.inr (.inr (some m))), some (.inl mi), some (.inl k), some (.inl (sum + ((M0.1 s (i + 76).toNat) - (M0.1 s (9 * k + 4).toNat)))), some (.inl i)] _ _ _ _ _
        refine w_ii rfl ⟨by show (-2147483648 : Int) ≤ i + 1; omega, by show i + 1 < (2147483648 : Int); omega⟩ ?_
        show wz _ _ _ _ [some (.inr (.inr (some m))), some (.inl mi), some (.inl k), some (.inl (sum + ((M0.1 s (i + 76).toNat) - (M0.1 s (9 * k + 4).toNat)))), some (.inl (i + 1))] _ _ _ _ _
        refine w_goto ?_
        have eg : sum + cs_gain (M0.1 s) k.toNat i.toNat = sum + ((M0.1 s (i + 76).toNat) - (M0.1 s (9 * k + 4).toNat)) := by
          rw [cs_gain_i k0 i0, if_pos (by omega)]
        rw [e8] at h
        exact ih (i + 1) _ _ _ (by omega) (by omega) (by omega) (by omega) (fun z cb sb ez => h z cb sb (by omega))
theorem r_co {G : mj_G} {M0 : mj_M} {m s : Nat} {w : Nat → Nat} {Q : mj_P} {d : Nat} (gr : cp_GR G w) (br : cp_BR M0 w m) (gm : G m = (1012, 0)) (gs : G s = (51100, 537)) (m6 : M0.2.2 m 6 = some s) (hr : rv_r4 (M0.1 s) 0) (t1 : 1 ≤ M0.1 s 0) (t3 : M0.1 s 0 ≤ 3) {M : mj_M} {TR CO HA PL : Nat → Int} (hC : cr_C w M0 TR CO HA PL M) {mi : Int} (m0 : 0 ≤ mi) (m12 : mi ≤ 12) (hb : ∀ q : Nat, (q : Int) < M0.1 s 0 → 0 ≤ HA (3 * mi.toNat + q) ∧ HA (3 * mi.toNat + q) ≤ 12000) : ∀ (n : Nat) (k : Int) (v3 v4 : Option mj_V) (cb sb : Nat), k + n = M0.1 s 0 → 0 ≤ k → Q (some (.inl (cs_cb (M0.1 s) HA mi.toNat n k.toNat))) G M → wz (d + 2) mt_X12_canBe.2.2.2.2.1 Q (mt_X12_canBe.2.2.2.2.1.drop 2) [some (.inr (.inr (some m))), some (.inl mi), some (.inl k), v3, v4] [] G M cb sb := by
  have et := cs_te hr
  have b1 := cs_r1 hr
  intro n
  induction n with
  | zero =>
    intro k v3 v4 cb sb e k0 h
    refine w_iln rfl ?_
    refine w_aln rfl ?_
    refine w_gr gm rfl (by decide) rfl (hC.r (m6)) ?_
    refine w_ic ?_
    refine w_iald (v := (M0.1 s 0)) gs rfl (by show (0 : Int) ≤ 0; omega) (by show 0 < ((537 : Nat) : Int); omega) ((hC.sj gr gs).trans (congrArg (M0.1 s) (by show (0 : Int).toNat = 0; omega))) ?_
    refine w_cmge (fun c1 => ?_) (fun c1 => ?_)
    · skip
      refine w_ic ?_
      exact w_iret (fun _ => Or.inr rfl) h
    · exfalso; omega
  | succ n ih =>
    intro k v3 v4 cb sb e k0 h
    have hbk := hb k.toNat (by omega)
    have eh : HA (3 * mi.toNat + k.toNat) = (HA (k + 3 * mi).toNat) := congrArg HA (by omega)
    rw [eh] at hbk
    have a := cs_rt hr (j := (9 * k + 8).toNat) (by omega) (by omega)
    have e9 : cs_cb (M0.1 s) HA mi.toNat (n + 1) k.toNat = if (HA (k + 3 * mi).toNat) + cs_all (M0.1 s) k.toNat (12 - mi).toNat mi.toNat < M0.1 s (9 * k + 8).toNat then 0 else cs_cb (M0.1 s) HA mi.toNat n (k + 1).toNat := by
      show (if HA (3 * mi.toNat + k.toNat) + cs_all _ _ (12 - mi.toNat) _ < M0.1 s (8 + 9 * k.toNat) then (0 : Int) else cs_cb _ _ _ n (k.toNat + 1)) = _
      rw [eh, show 12 - mi.toNat = (12 - mi).toNat by omega, show 8 + 9 * k.toNat = (9 * k + 8).toNat by omega, show k.toNat + 1 = (k + 1).toNat by omega]
    have al := cs_all_9 hr (k := k.toNat) (by omega) (12 - mi).toNat mi.toNat (by omega)
    rw [e9] at h
    refine w_iln rfl ?_
    refine w_aln rfl ?_
    refine w_gr gm rfl (by decide) rfl (hC.r (m6)) ?_
    refine w_ic ?_
    refine w_iald (v := (M0.1 s 0)) gs rfl (by show (0 : Int) ≤ 0; omega) (by show 0 < ((537 : Nat) : Int); omega) ((hC.sj gr gs).trans (congrArg (M0.1 s) (by show (0 : Int).toNat = 0; omega))) ?_
    refine w_cmge (fun c1 => ?_) (fun c1 => ?_)
    · exfalso; omega
    · skip
      refine w_aln rfl ?_
      refine w_gr gm rfl (by decide) rfl (hC.r (br.2.2.1)) ?_
      refine w_ic ?_
      refine w_iln rfl ?_
      refine w_mul ⟨by show (-2147483648 : Int) ≤ 3 * mi; omega, by show 3 * mi < (2147483648 : Int); omega⟩ ?_
      refine w_iln rfl ?_
      refine w_add ⟨by show (-2147483648 : Int) ≤ (3 * mi) + k; omega, by show (3 * mi) + k < (2147483648 : Int); omega⟩ ?_
      refine w_iald (v := (HA (k + 3 * mi).toNat)) gr.2.2.1 rfl (by show (0 : Int) ≤ (3 * mi) + k; omega) (by show (3 * mi) + k < ((39 : Nat) : Int); omega) ((hC.2.2.2.2.1 _ (by show ((3 * mi) + k).toNat < 39; omega)).trans (congrArg HA (show ((3 * mi) + k).toNat = (k + 3 * mi).toNat by omega))) ?_
      refine w_isn ?_
      show wz _ _ _ _ [some (.inr (.inr (some m))), some (.inl mi), some (.inl k), some (.inl (HA (k + 3 * mi).toNat)), v4] _ _ _ _ _
      refine w_iln rfl ?_
      refine w_is ?_
      show wz _ _ _ _ [some (.inr (.inr (some m))), some (.inl mi), some (.inl k), some (.inl (HA (k + 3 * mi).toNat)), some (.inl mi)] _ _ _ _ _
      refine r_ci gr br gm gs m6 hr t1 t3 hC (by omega) (by omega) (12 - mi).toNat mi (HA (k + 3 * mi).toNat) _ _ (by omega) (by omega) (by omega) (by omega) (fun z cb sb ez => ?_)
      refine w_iln rfl ?_
      refine w_aln rfl ?_
      refine w_iln rfl ?_
      refine w_ic ?_
      refine w_cv (st := [.inl z]) rfl gm rfl (Nat.le_of_ble_eq_true rfl) (fun kk h => h) ⟨Nat.le_of_ble_eq_true rfl, ?_⟩
      show wz (d + 1) mt_X12_toldOf.2.2.2.2.1 _ mt_X12_toldOf.2.2.2.2.1 [some (.inr (.inr (some m))), some (.inl k), some (.inl 4)] [] _ _ _ _
      refine w_aln rfl ?_
      refine w_gr gm rfl (by decide) rfl (hC.r (m6)) ?_
      refine w_ic ?_
      refine w_bp ?_
      refine w_iln rfl ?_
      refine w_mul ⟨by show (-2147483648 : Int) ≤ 9 * k; omega, by show 9 * k < (2147483648 : Int); omega⟩ ?_
      refine w_add ⟨by show (-2147483648 : Int) ≤ 4 + (9 * k); omega, by show 4 + (9 * k) < (2147483648 : Int); omega⟩ ?_
      refine w_iln rfl ?_
      refine w_add ⟨by show (-2147483648 : Int) ≤ (4 + (9 * k)) + 4; omega, by show (4 + (9 * k)) + 4 < (2147483648 : Int); omega⟩ ?_
      refine w_iald (v := (M0.1 s (9 * k + 8).toNat)) gs rfl (by show (0 : Int) ≤ (4 + (9 * k)) + 4; omega) (by show (4 + (9 * k)) + 4 < ((537 : Nat) : Int); omega) ((hC.sj gr gs).trans (congrArg (M0.1 s) (by show ((4 + (9 * k)) + 4).toNat = (9 * k + 8).toNat; omega))) ?_
      refine w_iret (fun q => by cases q) ?_
      refine w_cmge (fun c2 => ?_) (fun c2 => ?_)
      · skip
        refine w_ii rfl ⟨by show (-2147483648 : Int) ≤ k + 1; omega, by show k + 1 < (2147483648 : Int); omega⟩ ?_
        show wz _ _ _ _ [some (.inr (.inr (some m))), some (.inl mi), some (.inl (k + 1)), some (.inl z), some (.inl 12)] _ _ _ _ _
        refine w_goto ?_
        rw [if_neg (by omega)] at h
        exact ih (k + 1) _ _ _ _ (by omega) (by omega) h
      · skip
        refine w_ic ?_
        rw [if_pos (by omega)] at h
        exact w_iret (fun _ => Or.inl rfl) h
theorem r_X12_canBe {G : mj_G} {M0 : mj_M} {m s : Nat} {w : Nat → Nat} {Q : mj_P} {d : Nat} (gr : cp_GR G w) (br : cp_BR M0 w m) (gm : G m = (1012, 0)) (gs : G s = (51100, 537)) (m6 : M0.2.2 m 6 = some s) (hr : rv_r4 (M0.1 s) 0) (t1 : 1 ≤ M0.1 s 0) (t3 : M0.1 s 0 ≤ 3) {M : mj_M} {TR CO HA PL : Nat → Int} (hC : cr_C w M0 TR CO HA PL M) {mi : Int} (m0 : 0 ≤ mi) (m12 : mi ≤ 12) (hb : ∀ q : Nat, (q : Int) < M0.1 s 0 → 0 ≤ HA (3 * mi.toNat + q) ∧ HA (3 * mi.toNat + q) ≤ 12000) (h : Q (some (.inl (cs_cb (M0.1 s) HA mi.toNat (cs_t (M0.1 s)) 0))) G M) : mj_R mj_tab (d + 3) 171 [.inr (.inr (some m)), .inl mi] G M Q := by
  have et := cs_te hr
  refine ⟨Nat.le_of_ble_eq_true rfl, ?_⟩
  show wz (d + 2) mt_X12_canBe.2.2.2.2.1 Q mt_X12_canBe.2.2.2.2.1 [some (.inr (.inr (some m))), some (.inl mi), none, none, none] [] G M _ _
  refine w_ic ?_
  refine w_isn ?_
  exact r_co gr br gm gs m6 hr t1 t3 hC m0 m12 hb (cs_t (M0.1 s)) 0 none none _ _ (by omega) (by decide) h
theorem r_X12_costOf {G : mj_G} {M0 : mj_M} {m s : Nat} {w : Nat → Nat} {Q : mj_P} {d : Nat} (gr : cp_GR G w) (br : cp_BR M0 w m) (gm : G m = (1012, 0)) (gs : G s = (51100, 537)) (m6 : M0.2.2 m 6 = some s) (hr : rv_r4 (M0.1 s) 0) (t1 : 1 ≤ M0.1 s 0) (t3 : M0.1 s 0 ≤ 3) {M : mj_M} {TR CO HA PL : Nat → Int} (hC : cr_C w M0 TR CO HA PL M) {mi to : Int} {a b : Nat} (m0 : 0 ≤ mi) (m11 : mi ≤ 11) (ha : a ≤ cs_t (M0.1 s)) (hb : b ≤ cs_t (M0.1 s)) (ea : (mi = 0 ∧ a = cs_t (M0.1 s)) ∨ (1 ≤ mi ∧ TR (mi - 1).toNat = cs_code (M0.1 s) a)) (eb : to = cs_code (M0.1 s) b) (h : Q (some (.inl (cs_cost (M0.1 s) a b))) G M) : mj_R mj_tab (d + 2) 178 [.inr (.inr (some m)), .inl mi, .inl to] G M Q := by
  have et := cs_te hr
  have b1 := cs_r1 hr
  have ca : (a = cs_t (M0.1 s) ∧ cs_code (M0.1 s) a = 8) ∨ (a < cs_t (M0.1 s) ∧ cs_code (M0.1 s) a = a) := by
    unfold cs_code; split <;> omega
  have cb : (b = cs_t (M0.1 s) ∧ cs_code (M0.1 s) b = 8) ∨ (b < cs_t (M0.1 s) ∧ cs_code (M0.1 s) b = b) := by
    unfold cs_code; split <;> omega
  have eb9 : 10 + 9 * b = (9 * (b : Int) + 10).toNat := by omega
  refine ⟨Nat.le_of_ble_eq_true rfl, ?_⟩
  show wz (d + 1) mt_X12_costOf.2.2.2.2.1 Q mt_X12_costOf.2.2.2.2.1 [some (.inr (.inr (some m))), some (.inl mi), some (.inl to), none] [] G M _ _
  refine w_iln rfl ?_
  refine w_ifne (fun c1 => ?_) (fun c1 => ?_)
  · skip
    refine w_aln rfl ?_
    refine w_gr gm rfl (by decide) rfl (hC.r (br.1)) ?_
    refine w_iln rfl ?_
    refine w_ic ?_
    refine w_sub ⟨by show (-2147483648 : Int) ≤ mi - 1; omega, by show mi - 1 < (2147483648 : Int); omega⟩ ?_
    refine w_iald (v := (TR (mi - 1).toNat)) gr.1 rfl (by show (0 : Int) ≤ mi - 1; omega) (by show mi - 1 < ((13 : Nat) : Int); omega) (hC.2.2.1 _ (by show (mi - 1).toNat < 13; omega)) ?_
    refine w_isn ?_
    show wz _ _ _ _ [some (.inr (.inr (some m))), some (.inl mi), some (.inl to), some (.inl (TR (mi - 1).toNat))] _ _ _ _ _
    refine w_aln rfl ?_
    refine w_gr gm rfl (by decide) rfl (hC.r (m6)) ?_
    refine w_ic ?_
    refine w_iald (v := (M0.1 s 1)) gs rfl (by show (0 : Int) ≤ 1; omega) (by show 1 < ((537 : Nat) : Int); omega) ((hC.sj gr gs).trans (congrArg (M0.1 s) (by show (1 : Int).toNat = 1; omega))) ?_
    refine w_aln rfl ?_
    refine w_iln rfl ?_
    refine w_cv (st := [.inl (M0.1 s 1)]) rfl gm rfl (Nat.le_of_ble_eq_true rfl) (fun kk h => h) ⟨Nat.le_of_ble_eq_true rfl, ?_⟩
    show wz (d) mt_X12_placeOf.2.2.2.2.1 _ mt_X12_placeOf.2.2.2.2.1 [some (.inr (.inr (some m))), some (.inl to)] [] _ _ _ _
    refine w_iln rfl ?_
    refine w_bp ?_
    refine w_cmne (fun c2 => ?_) (fun c2 => ?_)
    · skip
      refine w_iln rfl ?_
      refine w_iret (fun q => by cases q) ?_
      refine w_aln rfl ?_
      refine w_iln rfl ?_
      refine w_cv (st := [.inl to, .inl (M0.1 s 1)]) rfl gm rfl (Nat.le_of_ble_eq_true rfl) (fun kk h => h) ⟨Nat.le_of_ble_eq_true rfl, ?_⟩
      show wz (d) mt_X12_placeOf.2.2.2.2.1 _ mt_X12_placeOf.2.2.2.2.1 [some (.inr (.inr (some m))), some (.inl (TR (mi - 1).toNat))] [] _ _ _ _
      refine w_iln rfl ?_
      refine w_bp ?_
      refine w_cmne (fun c3 => ?_) (fun c3 => ?_)
      · skip
        refine w_iln rfl ?_
        refine w_iret (fun q => by cases q) ?_
        refine w_sub ⟨by show (-2147483648 : Int) ≤ to - (TR (mi - 1).toNat); omega, by show to - (TR (mi - 1).toNat) < (2147483648 : Int); omega⟩ ?_
        refine w_cs (st := [.inl (M0.1 s 1)]) rfl (Nat.le_of_ble_eq_true rfl) (fun kk h => h) ⟨Nat.le_of_ble_eq_true rfl, ?_⟩
        show wz (d) mt_X12_sizeOf.2.2.2.2.1 _ mt_X12_sizeOf.2.2.2.2.1 [some (.inl (to - (TR (mi - 1).toNat)))] [] _ _ _ _
        refine w_iln rfl ?_
        refine w_ifge (fun c4 => ?_) (fun c4 => ?_)
        · skip
          refine w_iln rfl ?_
          refine w_iret (fun q => by cases q) ?_
          have mb5 := cs_mul_b (u := (M0.1 s 1)) (z := to - (TR (mi - 1).toNat)) (n := 3) (by omega) (by omega) (by omega) (by omega)
          refine w_mul ⟨by show (-2147483648 : Int) ≤ (M0.1 s 1) * (to - (TR (mi - 1).toNat)); omega, by show (M0.1 s 1) * (to - (TR (mi - 1).toNat)) < (2147483648 : Int); omega⟩ ?_
          refine w_iln rfl ?_
          refine w_bp ?_
          refine w_cmge (fun c6 => ?_) (fun c6 => ?_)
          · exfalso; omega
          · skip
            refine w_iln rfl ?_
            refine w_iln rfl ?_
            refine w_cmeq (fun c7 => ?_) (fun c7 => ?_)
            · skip
              refine w_ic ?_
              refine w_add ⟨by show (-2147483648 : Int) ≤ ((M0.1 s 1) * (to - (TR (mi - 1).toNat))) + 0; omega, by show ((M0.1 s 1) * (to - (TR (mi - 1).toNat))) + 0 < (2147483648 : Int); omega⟩ ?_
              have ev : ((M0.1 s 1) * (to - (TR (mi - 1).toNat))) + 0 = cs_cost (M0.1 s) a b := cs_cost_i (z := to - (TR (mi - 1).toNat)) (v := 0) (by unfold cs_d; split <;> omega) (by rw [if_neg (by omega)])
              exact w_iret (fun q => by cases q) (by rw [ev]; exact h)
            · skip
              have tb8 := cs_rt hr (j := (9 * to + 10).toNat) (by omega) (by omega)
              refine w_aln rfl ?_
              refine w_iln rfl ?_
              refine w_bp ?_
              refine w_cv (st := [.inl ((M0.1 s 1) * (to - (TR (mi - 1).toNat)))]) rfl gm rfl (Nat.le_of_ble_eq_true rfl) (fun kk h => h) ⟨Nat.le_of_ble_eq_true rfl, ?_⟩
              show wz (d) mt_X12_toldOf.2.2.2.2.1 _ mt_X12_toldOf.2.2.2.2.1 [some (.inr (.inr (some m))), some (.inl to), some (.inl 6)] [] _ _ _ _
              refine w_aln rfl ?_
              refine w_gr gm rfl (by decide) rfl (hC.r (m6)) ?_
              refine w_ic ?_
              refine w_bp ?_
              refine w_iln rfl ?_
              refine w_mul ⟨by show (-2147483648 : Int) ≤ 9 * to; omega, by show 9 * to < (2147483648 : Int); omega⟩ ?_
              refine w_add ⟨by show (-2147483648 : Int) ≤ 4 + (9 * to); omega, by show 4 + (9 * to) < (2147483648 : Int); omega⟩ ?_
              refine w_iln rfl ?_
              refine w_add ⟨by show (-2147483648 : Int) ≤ (4 + (9 * to)) + 6; omega, by show (4 + (9 * to)) + 6 < (2147483648 : Int); omega⟩ ?_
              refine w_iald (v := (M0.1 s (9 * to + 10).toNat)) gs rfl (by show (0 : Int) ≤ (4 + (9 * to)) + 6; omega) (by show (4 + (9 * to)) + 6 < ((537 : Nat) : Int); omega) ((hC.sj gr gs).trans (congrArg (M0.1 s) (by show ((4 + (9 * to)) + 6).toNat = (9 * to + 10).toNat; omega))) ?_
              refine w_iret (fun q => by cases q) ?_
              refine w_goto ?_
              refine w_add ⟨by show (-2147483648 : Int) ≤ ((M0.1 s 1) * (to - (TR (mi - 1).toNat))) + (M0.1 s (9 * to + 10).toNat); omega, by show ((M0.1 s 1) * (to - (TR (mi - 1).toNat))) + (M0.1 s (9 * to + 10).toNat) < (2147483648 : Int); omega⟩ ?_
              have ev : ((M0.1 s 1) * (to - (TR (mi - 1).toNat))) + (M0.1 s (9 * to + 10).toNat) = cs_cost (M0.1 s) a b := cs_cost_i (z := to - (TR (mi - 1).toNat)) (by unfold cs_d; split <;> omega) (by rw [if_pos (by omega), eb9]; exact congrArg (M0.1 s) (by omega))
              exact w_iret (fun q => by cases q) (by rw [ev]; exact h)
        · skip
          refine w_iln rfl ?_
          refine w_neg ⟨by show (-2147483648 : Int) ≤ to - (TR (mi - 1).toNat); omega, by show to - (TR (mi - 1).toNat) < (2147483648 : Int); omega⟩ (by omega) ?_
          refine w_goto ?_
          refine w_iret (fun q => by cases q) ?_
          have mb9 := cs_mul_b (u := (M0.1 s 1)) (z := (-(to - (TR (mi - 1).toNat)))) (n := 3) (by omega) (by omega) (by omega) (by omega)
          refine w_mul ⟨by show (-2147483648 : Int) ≤ (M0.1 s 1) * (-(to - (TR (mi - 1).toNat))); omega, by show (M0.1 s 1) * (-(to - (TR (mi - 1).toNat))) < (2147483648 : Int); omega⟩ ?_
          refine w_iln rfl ?_
          refine w_bp ?_
          refine w_cmge (fun c10 => ?_) (fun c10 => ?_)
          · exfalso; omega
          · skip
            refine w_iln rfl ?_
            refine w_iln rfl ?_
            refine w_cmeq (fun c11 => ?_) (fun c11 => ?_)
            · exfalso; omega
            · skip
              have tb12 := cs_rt hr (j := (9 * to + 10).toNat) (by omega) (by omega)
              refine w_aln rfl ?_
              refine w_iln rfl ?_
              refine w_bp ?_
              refine w_cv (st := [.inl ((M0.1 s 1) * (-(to - (TR (mi - 1).toNat))))]) rfl gm rfl (Nat.le_of_ble_eq_true rfl) (fun kk h => h) ⟨Nat.le_of_ble_eq_true rfl, ?_⟩
              show wz (d) mt_X12_toldOf.2.2.2.2.1 _ mt_X12_toldOf.2.2.2.2.1 [some (.inr (.inr (some m))), some (.inl to), some (.inl 6)] [] _ _ _ _
              refine w_aln rfl ?_
              refine w_gr gm rfl (by decide) rfl (hC.r (m6)) ?_
              refine w_ic ?_
              refine w_bp ?_
              refine w_iln rfl ?_
              refine w_mul ⟨by show (-2147483648 : Int) ≤ 9 * to; omega, by show 9 * to < (2147483648 : Int); omega⟩ ?_
              refine w_add ⟨by show (-2147483648 : Int) ≤ 4 + (9 * to); omega, by show 4 + (9 * to) < (2147483648 : Int); omega⟩ ?_
              refine w_iln rfl ?_
              refine w_add ⟨by show (-2147483648 : Int) ≤ (4 + (9 * to)) + 6; omega, by show (4 + (9 * to)) + 6 < (2147483648 : Int); omega⟩ ?_
              refine w_iald (v := (M0.1 s (9 * to + 10).toNat)) gs rfl (by show (0 : Int) ≤ (4 + (9 * to)) + 6; omega) (by show (4 + (9 * to)) + 6 < ((537 : Nat) : Int); omega) ((hC.sj gr gs).trans (congrArg (M0.1 s) (by show ((4 + (9 * to)) + 6).toNat = (9 * to + 10).toNat; omega))) ?_
              refine w_iret (fun q => by cases q) ?_
              refine w_goto ?_
              refine w_add ⟨by show (-2147483648 : Int) ≤ ((M0.1 s 1) * (-(to - (TR (mi - 1).toNat)))) + (M0.1 s (9 * to + 10).toNat); omega, by show ((M0.1 s 1) * (-(to - (TR (mi - 1).toNat)))) + (M0.1 s (9 * to + 10).toNat) < (2147483648 : Int); omega⟩ ?_
              have ev : ((M0.1 s 1) * (-(to - (TR (mi - 1).toNat)))) + (M0.1 s (9 * to + 10).toNat) = cs_cost (M0.1 s) a b := cs_cost_i (z := (-(to - (TR (mi - 1).toNat)))) (by unfold cs_d; split <;> omega) (by rw [if_pos (by omega), eb9]; exact congrArg (M0.1 s) (by omega))
              exact w_iret (fun q => by cases q) (by rw [ev]; exact h)
      · skip
        refine w_aln rfl ?_
        refine w_gr gm rfl (by decide) rfl (hC.r (m6)) ?_
        refine w_ic ?_
        refine w_iald (v := (M0.1 s 0)) gs rfl (by show (0 : Int) ≤ 0; omega) (by show 0 < ((537 : Nat) : Int); omega) ((hC.sj gr gs).trans (congrArg (M0.1 s) (by show (0 : Int).toNat = 0; omega))) ?_
        refine w_goto ?_
        refine w_iret (fun q => by cases q) ?_
        refine w_sub ⟨by show (-2147483648 : Int) ≤ to - (M0.1 s 0); omega, by show to - (M0.1 s 0) < (2147483648 : Int); omega⟩ ?_
        refine w_cs (st := [.inl (M0.1 s 1)]) rfl (Nat.le_of_ble_eq_true rfl) (fun kk h => h) ⟨Nat.le_of_ble_eq_true rfl, ?_⟩
        show wz (d) mt_X12_sizeOf.2.2.2.2.1 _ mt_X12_sizeOf.2.2.2.2.1 [some (.inl (to - (M0.1 s 0)))] [] _ _ _ _
        refine w_iln rfl ?_
        refine w_ifge (fun c13 => ?_) (fun c13 => ?_)
        · exfalso; omega
        · skip
          refine w_iln rfl ?_
          refine w_neg ⟨by show (-2147483648 : Int) ≤ to - (M0.1 s 0); omega, by show to - (M0.1 s 0) < (2147483648 : Int); omega⟩ (by omega) ?_
          refine w_goto ?_
          refine w_iret (fun q => by cases q) ?_
          have mb14 := cs_mul_b (u := (M0.1 s 1)) (z := (-(to - (M0.1 s 0)))) (n := 3) (by omega) (by omega) (by omega) (by omega)
          refine w_mul ⟨by show (-2147483648 : Int) ≤ (M0.1 s 1) * (-(to - (M0.1 s 0))); omega, by show (M0.1 s 1) * (-(to - (M0.1 s 0))) < (2147483648 : Int); omega⟩ ?_
          refine w_iln rfl ?_
          refine w_bp ?_
          refine w_cmge (fun c15 => ?_) (fun c15 => ?_)
          · exfalso; omega
          · skip
            refine w_iln rfl ?_
            refine w_iln rfl ?_
            refine w_cmeq (fun c16 => ?_) (fun c16 => ?_)
            · exfalso; omega
            · skip
              have tb17 := cs_rt hr (j := (9 * to + 10).toNat) (by omega) (by omega)
              refine w_aln rfl ?_
              refine w_iln rfl ?_
              refine w_bp ?_
              refine w_cv (st := [.inl ((M0.1 s 1) * (-(to - (M0.1 s 0))))]) rfl gm rfl (Nat.le_of_ble_eq_true rfl) (fun kk h => h) ⟨Nat.le_of_ble_eq_true rfl, ?_⟩
              show wz (d) mt_X12_toldOf.2.2.2.2.1 _ mt_X12_toldOf.2.2.2.2.1 [some (.inr (.inr (some m))), some (.inl to), some (.inl 6)] [] _ _ _ _
              refine w_aln rfl ?_
              refine w_gr gm rfl (by decide) rfl (hC.r (m6)) ?_
              refine w_ic ?_
              refine w_bp ?_
              refine w_iln rfl ?_
              refine w_mul ⟨by show (-2147483648 : Int) ≤ 9 * to; omega, by show 9 * to < (2147483648 : Int); omega⟩ ?_
              refine w_add ⟨by show (-2147483648 : Int) ≤ 4 + (9 * to); omega, by show 4 + (9 * to) < (2147483648 : Int); omega⟩ ?_
              refine w_iln rfl ?_
              refine w_add ⟨by show (-2147483648 : Int) ≤ (4 + (9 * to)) + 6; omega, by show (4 + (9 * to)) + 6 < (2147483648 : Int); omega⟩ ?_
              refine w_iald (v := (M0.1 s (9 * to + 10).toNat)) gs rfl (by show (0 : Int) ≤ (4 + (9 * to)) + 6; omega) (by show (4 + (9 * to)) + 6 < ((537 : Nat) : Int); omega) ((hC.sj gr gs).trans (congrArg (M0.1 s) (by show ((4 + (9 * to)) + 6).toNat = (9 * to + 10).toNat; omega))) ?_
              refine w_iret (fun q => by cases q) ?_
              refine w_goto ?_
              refine w_add ⟨by show (-2147483648 : Int) ≤ ((M0.1 s 1) * (-(to - (M0.1 s 0)))) + (M0.1 s (9 * to + 10).toNat); omega, by show ((M0.1 s 1) * (-(to - (M0.1 s 0)))) + (M0.1 s (9 * to + 10).toNat) < (2147483648 : Int); omega⟩ ?_
              have ev : ((M0.1 s 1) * (-(to - (M0.1 s 0)))) + (M0.1 s (9 * to + 10).toNat) = cs_cost (M0.1 s) a b := cs_cost_i (z := (-(to - (M0.1 s 0)))) (by unfold cs_d; split <;> omega) (by rw [if_pos (by omega), eb9]; exact congrArg (M0.1 s) (by omega))
              exact w_iret (fun q => by cases q) (by rw [ev]; exact h)
    · skip
      refine w_aln rfl ?_
      refine w_gr gm rfl (by decide) rfl (hC.r (m6)) ?_
      refine w_ic ?_
      refine w_iald (v := (M0.1 s 0)) gs rfl (by show (0 : Int) ≤ 0; omega) (by show 0 < ((537 : Nat) : Int); omega) ((hC.sj gr gs).trans (congrArg (M0.1 s) (by show (0 : Int).toNat = 0; omega))) ?_
      refine w_goto ?_
      refine w_iret (fun q => by cases q) ?_
      refine w_aln rfl ?_
      refine w_iln rfl ?_
      refine w_cv (st := [.inl (M0.1 s 0), .inl (M0.1 s 1)]) rfl gm rfl (Nat.le_of_ble_eq_true rfl) (fun kk h => h) ⟨Nat.le_of_ble_eq_true rfl, ?_⟩
      show wz (d) mt_X12_placeOf.2.2.2.2.1 _ mt_X12_placeOf.2.2.2.2.1 [some (.inr (.inr (some m))), some (.inl (TR (mi - 1).toNat))] [] _ _ _ _
      refine w_iln rfl ?_
      refine w_bp ?_
      refine w_cmne (fun c18 => ?_) (fun c18 => ?_)
      · skip
        refine w_iln rfl ?_
        refine w_iret (fun q => by cases q) ?_
        refine w_sub ⟨by show (-2147483648 : Int) ≤ (M0.1 s 0) - (TR (mi - 1).toNat); omega, by show (M0.1 s 0) - (TR (mi - 1).toNat) < (2147483648 : Int); omega⟩ ?_
        refine w_cs (st := [.inl (M0.1 s 1)]) rfl (Nat.le_of_ble_eq_true rfl) (fun kk h => h) ⟨Nat.le_of_ble_eq_true rfl, ?_⟩
        show wz (d) mt_X12_sizeOf.2.2.2.2.1 _ mt_X12_sizeOf.2.2.2.2.1 [some (.inl ((M0.1 s 0) - (TR (mi - 1).toNat)))] [] _ _ _ _
        refine w_iln rfl ?_
        refine w_ifge (fun c19 => ?_) (fun c19 => ?_)
        · skip
          refine w_iln rfl ?_
          refine w_iret (fun q => by cases q) ?_
          have mb20 := cs_mul_b (u := (M0.1 s 1)) (z := (M0.1 s 0) - (TR (mi - 1).toNat)) (n := 3) (by omega) (by omega) (by omega) (by omega)
          refine w_mul ⟨by show (-2147483648 : Int) ≤ (M0.1 s 1) * ((M0.1 s 0) - (TR (mi - 1).toNat)); omega, by show (M0.1 s 1) * ((M0.1 s 0) - (TR (mi - 1).toNat)) < (2147483648 : Int); omega⟩ ?_
          refine w_iln rfl ?_
          refine w_bp ?_
          refine w_cmge (fun c21 => ?_) (fun c21 => ?_)
          · skip
            refine w_ic ?_
            refine w_add ⟨by show (-2147483648 : Int) ≤ ((M0.1 s 1) * ((M0.1 s 0) - (TR (mi - 1).toNat))) + 0; omega, by show ((M0.1 s 1) * ((M0.1 s 0) - (TR (mi - 1).toNat))) + 0 < (2147483648 : Int); omega⟩ ?_
            have ev : ((M0.1 s 1) * ((M0.1 s 0) - (TR (mi - 1).toNat))) + 0 = cs_cost (M0.1 s) a b := cs_cost_i (z := (M0.1 s 0) - (TR (mi - 1).toNat)) (v := 0) (by unfold cs_d; split <;> omega) (by rw [if_neg (by omega)])
            exact w_iret (fun q => by cases q) (by rw [ev]; exact h)
          · exfalso; omega
        · exfalso; omega
      · skip
        refine w_aln rfl ?_
        refine w_gr gm rfl (by decide) rfl (hC.r (m6)) ?_
        refine w_ic ?_
        refine w_iald (v := (M0.1 s 0)) gs rfl (by show (0 : Int) ≤ 0; omega) (by show 0 < ((537 : Nat) : Int); omega) ((hC.sj gr gs).trans (congrArg (M0.1 s) (by show (0 : Int).toNat = 0; omega))) ?_
        refine w_goto ?_
        refine w_iret (fun q => by cases q) ?_
        refine w_sub ⟨by show (-2147483648 : Int) ≤ (M0.1 s 0) - (M0.1 s 0); omega, by show (M0.1 s 0) - (M0.1 s 0) < (2147483648 : Int); omega⟩ ?_
        refine w_cs (st := [.inl (M0.1 s 1)]) rfl (Nat.le_of_ble_eq_true rfl) (fun kk h => h) ⟨Nat.le_of_ble_eq_true rfl, ?_⟩
        show wz (d) mt_X12_sizeOf.2.2.2.2.1 _ mt_X12_sizeOf.2.2.2.2.1 [some (.inl ((M0.1 s 0) - (M0.1 s 0)))] [] _ _ _ _
        refine w_iln rfl ?_
        refine w_ifge (fun c22 => ?_) (fun c22 => ?_)
        · skip
          refine w_iln rfl ?_
          refine w_iret (fun q => by cases q) ?_
          have mb23 := cs_mul_b (u := (M0.1 s 1)) (z := (M0.1 s 0) - (M0.1 s 0)) (n := 3) (by omega) (by omega) (by omega) (by omega)
          refine w_mul ⟨by show (-2147483648 : Int) ≤ (M0.1 s 1) * ((M0.1 s 0) - (M0.1 s 0)); omega, by show (M0.1 s 1) * ((M0.1 s 0) - (M0.1 s 0)) < (2147483648 : Int); omega⟩ ?_
          refine w_iln rfl ?_
          refine w_bp ?_
          refine w_cmge (fun c24 => ?_) (fun c24 => ?_)
          · skip
            refine w_ic ?_
            refine w_add ⟨by show (-2147483648 : Int) ≤ ((M0.1 s 1) * ((M0.1 s 0) - (M0.1 s 0))) + 0; omega, by show ((M0.1 s 1) * ((M0.1 s 0) - (M0.1 s 0))) + 0 < (2147483648 : Int); omega⟩ ?_
            have ev : ((M0.1 s 1) * ((M0.1 s 0) - (M0.1 s 0))) + 0 = cs_cost (M0.1 s) a b := cs_cost_i (z := (M0.1 s 0) - (M0.1 s 0)) (v := 0) (by unfold cs_d; split <;> omega) (by rw [if_neg (by omega)])
            exact w_iret (fun q => by cases q) (by rw [ev]; exact h)
          · exfalso; omega
        · exfalso; omega
  · skip
    refine w_bp ?_
    refine w_goto ?_
    refine w_isn ?_
    show wz _ _ _ _ [some (.inr (.inr (some m))), some (.inl mi), some (.inl to), some (.inl 8)] _ _ _ _ _
    refine w_aln rfl ?_
    refine w_gr gm rfl (by decide) rfl (hC.r (m6)) ?_
    refine w_ic ?_
    refine w_iald (v := (M0.1 s 1)) gs rfl (by show (0 : Int) ≤ 1; omega) (by show 1 < ((537 : Nat) : Int); omega) ((hC.sj gr gs).trans (congrArg (M0.1 s) (by show (1 : Int).toNat = 1; omega))) ?_
    refine w_aln rfl ?_
    refine w_iln rfl ?_
    refine w_cv (st := [.inl (M0.1 s 1)]) rfl gm rfl (Nat.le_of_ble_eq_true rfl) (fun kk h => h) ⟨Nat.le_of_ble_eq_true rfl, ?_⟩
    show wz (d) mt_X12_placeOf.2.2.2.2.1 _ mt_X12_placeOf.2.2.2.2.1 [some (.inr (.inr (some m))), some (.inl to)] [] _ _ _ _
    refine w_iln rfl ?_
    refine w_bp ?_
    refine w_cmne (fun c25 => ?_) (fun c25 => ?_)
    · skip
      refine w_iln rfl ?_
      refine w_iret (fun q => by cases q) ?_
      refine w_aln rfl ?_
      refine w_iln rfl ?_
      refine w_cv (st := [.inl to, .inl (M0.1 s 1)]) rfl gm rfl (Nat.le_of_ble_eq_true rfl) (fun kk h => h) ⟨Nat.le_of_ble_eq_true rfl, ?_⟩
      show wz (d) mt_X12_placeOf.2.2.2.2.1 _ mt_X12_placeOf.2.2.2.2.1 [some (.inr (.inr (some m))), some (.inl 8)] [] _ _ _ _
      refine w_iln rfl ?_
      refine w_bp ?_
      refine w_cmne (fun c26 => ?_) (fun c26 => ?_)
      · exfalso; omega
      · skip
        refine w_aln rfl ?_
        refine w_gr gm rfl (by decide) rfl (hC.r (m6)) ?_
        refine w_ic ?_
        refine w_iald (v := (M0.1 s 0)) gs rfl (by show (0 : Int) ≤ 0; omega) (by show 0 < ((537 : Nat) : Int); omega) ((hC.sj gr gs).trans (congrArg (M0.1 s) (by show (0 : Int).toNat = 0; omega))) ?_
        refine w_goto ?_
        refine w_iret (fun q => by cases q) ?_
        refine w_sub ⟨by show (-2147483648 : Int) ≤ to - (M0.1 s 0); omega, by show to - (M0.1 s 0) < (2147483648 : Int); omega⟩ ?_
        refine w_cs (st := [.inl (M0.1 s 1)]) rfl (Nat.le_of_ble_eq_true rfl) (fun kk h => h) ⟨Nat.le_of_ble_eq_true rfl, ?_⟩
        show wz (d) mt_X12_sizeOf.2.2.2.2.1 _ mt_X12_sizeOf.2.2.2.2.1 [some (.inl (to - (M0.1 s 0)))] [] _ _ _ _
        refine w_iln rfl ?_
        refine w_ifge (fun c27 => ?_) (fun c27 => ?_)
        · exfalso; omega
        · skip
          refine w_iln rfl ?_
          refine w_neg ⟨by show (-2147483648 : Int) ≤ to - (M0.1 s 0); omega, by show to - (M0.1 s 0) < (2147483648 : Int); omega⟩ (by omega) ?_
          refine w_goto ?_
          refine w_iret (fun q => by cases q) ?_
          have mb28 := cs_mul_b (u := (M0.1 s 1)) (z := (-(to - (M0.1 s 0)))) (n := 3) (by omega) (by omega) (by omega) (by omega)
          refine w_mul ⟨by show (-2147483648 : Int) ≤ (M0.1 s 1) * (-(to - (M0.1 s 0))); omega, by show (M0.1 s 1) * (-(to - (M0.1 s 0))) < (2147483648 : Int); omega⟩ ?_
          refine w_iln rfl ?_
          refine w_bp ?_
          refine w_cmge (fun c29 => ?_) (fun c29 => ?_)
          · exfalso; omega
          · skip
            refine w_iln rfl ?_
            refine w_iln rfl ?_
            refine w_cmeq (fun c30 => ?_) (fun c30 => ?_)
            · exfalso; omega
            · skip
              have tb31 := cs_rt hr (j := (9 * to + 10).toNat) (by omega) (by omega)
              refine w_aln rfl ?_
              refine w_iln rfl ?_
              refine w_bp ?_
              refine w_cv (st := [.inl ((M0.1 s 1) * (-(to - (M0.1 s 0))))]) rfl gm rfl (Nat.le_of_ble_eq_true rfl) (fun kk h => h) ⟨Nat.le_of_ble_eq_true rfl, ?_⟩
              show wz (d) mt_X12_toldOf.2.2.2.2.1 _ mt_X12_toldOf.2.2.2.2.1 [some (.inr (.inr (some m))), some (.inl to), some (.inl 6)] [] _ _ _ _
              refine w_aln rfl ?_
              refine w_gr gm rfl (by decide) rfl (hC.r (m6)) ?_
              refine w_ic ?_
              refine w_bp ?_
              refine w_iln rfl ?_
              refine w_mul ⟨by show (-2147483648 : Int) ≤ 9 * to; omega, by show 9 * to < (2147483648 : Int); omega⟩ ?_
              refine w_add ⟨by show (-2147483648 : Int) ≤ 4 + (9 * to); omega, by show 4 + (9 * to) < (2147483648 : Int); omega⟩ ?_
              refine w_iln rfl ?_
              refine w_add ⟨by show (-2147483648 : Int) ≤ (4 + (9 * to)) + 6; omega, by show (4 + (9 * to)) + 6 < (2147483648 : Int); omega⟩ ?_
              refine w_iald (v := (M0.1 s (9 * to + 10).toNat)) gs rfl (by show (0 : Int) ≤ (4 + (9 * to)) + 6; omega) (by show (4 + (9 * to)) + 6 < ((537 : Nat) : Int); omega) ((hC.sj gr gs).trans (congrArg (M0.1 s) (by show ((4 + (9 * to)) + 6).toNat = (9 * to + 10).toNat; omega))) ?_
              refine w_iret (fun q => by cases q) ?_
              refine w_goto ?_
              refine w_add ⟨by show (-2147483648 : Int) ≤ ((M0.1 s 1) * (-(to - (M0.1 s 0)))) + (M0.1 s (9 * to + 10).toNat); omega, by show ((M0.1 s 1) * (-(to - (M0.1 s 0)))) + (M0.1 s (9 * to + 10).toNat) < (2147483648 : Int); omega⟩ ?_
              have ev : ((M0.1 s 1) * (-(to - (M0.1 s 0)))) + (M0.1 s (9 * to + 10).toNat) = cs_cost (M0.1 s) a b := cs_cost_i (z := (-(to - (M0.1 s 0)))) (by unfold cs_d; split <;> omega) (by rw [if_pos (by omega), eb9]; exact congrArg (M0.1 s) (by omega))
              exact w_iret (fun q => by cases q) (by rw [ev]; exact h)
    · skip
      refine w_aln rfl ?_
      refine w_gr gm rfl (by decide) rfl (hC.r (m6)) ?_
      refine w_ic ?_
      refine w_iald (v := (M0.1 s 0)) gs rfl (by show (0 : Int) ≤ 0; omega) (by show 0 < ((537 : Nat) : Int); omega) ((hC.sj gr gs).trans (congrArg (M0.1 s) (by show (0 : Int).toNat = 0; omega))) ?_
      refine w_goto ?_
      refine w_iret (fun q => by cases q) ?_
      refine w_aln rfl ?_
      refine w_iln rfl ?_
      refine w_cv (st := [.inl (M0.1 s 0), .inl (M0.1 s 1)]) rfl gm rfl (Nat.le_of_ble_eq_true rfl) (fun kk h => h) ⟨Nat.le_of_ble_eq_true rfl, ?_⟩
      show wz (d) mt_X12_placeOf.2.2.2.2.1 _ mt_X12_placeOf.2.2.2.2.1 [some (.inr (.inr (some m))), some (.inl 8)] [] _ _ _ _
      refine w_iln rfl ?_
      refine w_bp ?_
      refine w_cmne (fun c32 => ?_) (fun c32 => ?_)
      · exfalso; omega
      · skip
        refine w_aln rfl ?_
        refine w_gr gm rfl (by decide) rfl (hC.r (m6)) ?_
        refine w_ic ?_
        refine w_iald (v := (M0.1 s 0)) gs rfl (by show (0 : Int) ≤ 0; omega) (by show 0 < ((537 : Nat) : Int); omega) ((hC.sj gr gs).trans (congrArg (M0.1 s) (by show (0 : Int).toNat = 0; omega))) ?_
        refine w_goto ?_
        refine w_iret (fun q => by cases q) ?_
        refine w_sub ⟨by show (-2147483648 : Int) ≤ (M0.1 s 0) - (M0.1 s 0); omega, by show (M0.1 s 0) - (M0.1 s 0) < (2147483648 : Int); omega⟩ ?_
        refine w_cs (st := [.inl (M0.1 s 1)]) rfl (Nat.le_of_ble_eq_true rfl) (fun kk h => h) ⟨Nat.le_of_ble_eq_true rfl, ?_⟩
        show wz (d) mt_X12_sizeOf.2.2.2.2.1 _ mt_X12_sizeOf.2.2.2.2.1 [some (.inl ((M0.1 s 0) - (M0.1 s 0)))] [] _ _ _ _
        refine w_iln rfl ?_
        refine w_ifge (fun c33 => ?_) (fun c33 => ?_)
        · skip
          refine w_iln rfl ?_
          refine w_iret (fun q => by cases q) ?_
          have mb34 := cs_mul_b (u := (M0.1 s 1)) (z := (M0.1 s 0) - (M0.1 s 0)) (n := 3) (by omega) (by omega) (by omega) (by omega)
          refine w_mul ⟨by show (-2147483648 : Int) ≤ (M0.1 s 1) * ((M0.1 s 0) - (M0.1 s 0)); omega, by show (M0.1 s 1) * ((M0.1 s 0) - (M0.1 s 0)) < (2147483648 : Int); omega⟩ ?_
          refine w_iln rfl ?_
          refine w_bp ?_
          refine w_cmge (fun c35 => ?_) (fun c35 => ?_)
          · skip
            refine w_ic ?_
            refine w_add ⟨by show (-2147483648 : Int) ≤ ((M0.1 s 1) * ((M0.1 s 0) - (M0.1 s 0))) + 0; omega, by show ((M0.1 s 1) * ((M0.1 s 0) - (M0.1 s 0))) + 0 < (2147483648 : Int); omega⟩ ?_
            have ev : ((M0.1 s 1) * ((M0.1 s 0) - (M0.1 s 0))) + 0 = cs_cost (M0.1 s) a b := cs_cost_i (z := (M0.1 s 0) - (M0.1 s 0)) (v := 0) (by unfold cs_d; split <;> omega) (by rw [if_neg (by omega)])
            exact w_iret (fun q => by cases q) (by rw [ev]; exact h)
          · exfalso; omega
        · exfalso; omega
theorem r_hv {G : mj_G} {M0 : mj_M} {m s : Nat} {w : Nat → Nat} {Q : mj_P} {d : Nat} (gr : cp_GR G w) (br : cp_BR M0 w m) (gm : G m = (1012, 0)) (gs : G s = (51100, 537)) (m6 : M0.2.2 m 6 = some s) (hr : rv_r4 (M0.1 s) 0) (t1 : 1 ≤ M0.1 s 0) (t3 : M0.1 s 0 ≤ 3) {M : mj_M} {TR CO HA PL : Nat → Int} (hC : cr_C w M0 TR CO HA PL M) {mi best tv : Int} (m0 : 0 ≤ mi) (m11 : mi ≤ 11) (etv : TR mi.toNat = tv) (hb : ∀ q : Nat, (q : Int) < M0.1 s 0 → 0 ≤ HA (3 * mi.toNat + q) ∧ HA (3 * mi.toNat + q) ≤ 12000) : ∀ (n : Nat) (k : Int) (HA2 : Nat → Int) (M2 : mj_M) (cb sb : Nat), k + n = M0.1 s 0 → 0 ≤ k → cr_C w M0 TR CO HA2 PL M2 → (∀ j : Nat, (j : Int) < 3 * mi + 3 → HA2 j = HA j) → (∀ q : Nat, (q : Int) < k → HA2 (3 * mi.toNat + 3 + q) = HA (3 * mi.toNat + q) + if (q : Int) = tv then cs_gain (M0.1 s) q mi.toNat else 0) → (∀ (HA2 : Nat → Int) (M2 : mj_M) (v4 : Option mj_V) (cb sb : Nat), cr_C w M0 TR CO HA2 PL M2 → (∀ j : Nat, (j : Int) < 3 * mi + 3 → HA2 j = HA j) → (∀ q : Nat, (q : Int) < M0.1 s 0 → HA2 (3 * mi.toNat + 3 + q) = HA (3 * mi.toNat + q) + if (q : Int) = tv then cs_gain (M0.1 s) q mi.toNat else 0) → wz (d + 2) mt_X12_cheapest.2.2.2.2.1 Q (mt_X12_cheapest.2.2.2.2.1.drop 183) [some (.inr (.inr (some m))), some (.inl (M0.1 s 0)), some (.inl best), some (.inl mi), v4] [] G M2 cb sb) → wz (d + 2) mt_X12_cheapest.2.2.2.2.1 Q (mt_X12_cheapest.2.2.2.2.1.drop 147) [some (.inr (.inr (some m))), some (.inl (M0.1 s 0)), some (.inl best), some (.inl mi), some (.inl k)] [] G M2 cb sb := by
  have et := cs_te hr
  have b1 := cs_r1 hr
  have bw := cs_rw hr (j := (mi + 76).toNat) (by omega) (by omega)
  intro n
  induction n with
  | zero =>
    intro k HA2 M2 cb sb e k0 hC2 h1 h2 h
    refine w_il rfl ?_
    refine w_iln rfl ?_
    refine w_cmge (fun c1 => ?_) (fun c1 => ?_)
    · skip
      exact h HA2 M2 _ _ _ hC2 h1 (fun q hq => h2 q (by omega))
    · exfalso; omega
  | succ n ih =>
    intro k HA2 M2 cb sb e k0 hC2 h1 h2 h
    have hbk := hb k.toNat (by omega)
    have eh : (HA2 (k + 3 * mi).toNat) = HA (3 * mi.toNat + k.toNat) := (h1 _ (by omega)).trans (congrArg HA (by omega))
    have hb1 : 0 ≤ (HA2 (k + 3 * mi).toNat) ∧ (HA2 (k + 3 * mi).toNat) ≤ 12000 := by rw [eh]; exact hbk
    have a := cs_rt hr (j := (9 * k + 4).toNat) (by omega) (by omega)
    have etv2 : TR mi.toNat = tv := etv
    refine w_il rfl ?_
    refine w_iln rfl ?_
    refine w_cmge (fun c1 => ?_) (fun c1 => ?_)
    · exfalso; omega
    · skip
      refine w_aln rfl ?_
      refine w_gr gm rfl (by decide) rfl (hC2.r (br.2.2.1)) ?_
      refine w_ic ?_
      refine w_iln rfl ?_
      refine w_mul ⟨by show (-2147483648 : Int) ≤ 3 * mi; omega, by show 3 * mi < (2147483648 : Int); omega⟩ ?_
      refine w_ic ?_
      refine w_add ⟨by show (-2147483648 : Int) ≤ (3 * mi) + 3; omega, by show (3 * mi) + 3 < (2147483648 : Int); omega⟩ ?_
      refine w_il rfl ?_
      refine w_add ⟨by show (-2147483648 : Int) ≤ ((3 * mi) + 3) + k; omega, by show ((3 * mi) + 3) + k < (2147483648 : Int); omega⟩ ?_
      refine w_aln rfl ?_
      refine w_gr gm rfl (by decide) rfl (hC2.r (br.2.2.1)) ?_
      refine w_ic ?_
      refine w_iln rfl ?_
      refine w_mul ⟨by show (-2147483648 : Int) ≤ 3 * mi; omega, by show 3 * mi < (2147483648 : Int); omega⟩ ?_
      refine w_il rfl ?_
      refine w_add ⟨by show (-2147483648 : Int) ≤ (3 * mi) + k; omega, by show (3 * mi) + k < (2147483648 : Int); omega⟩ ?_
      refine w_iald (v := (HA2 (k + 3 * mi).toNat)) gr.2.2.1 rfl (by show (0 : Int) ≤ (3 * mi) + k; omega) (by show (3 * mi) + k < ((39 : Nat) : Int); omega) ((hC2.2.2.2.2.1 _ (by show ((3 * mi) + k).toNat < 39; omega)).trans (congrArg HA2 (show ((3 * mi) + k).toNat = (k + 3 * mi).toNat by omega))) ?_
      refine w_il rfl ?_
      refine w_aln rfl ?_
      refine w_gr gm rfl (by decide) rfl (hC2.r (br.1)) ?_
      refine w_iln rfl ?_
      refine w_iald (v := (TR mi.toNat)) gr.1 rfl (by show (0 : Int) ≤ mi; omega) (by show mi < ((13 : Nat) : Int); omega) (hC2.2.2.1 _ (by show mi.toNat < 13; omega)) ?_
      refine w_cmne (fun c2 => ?_) (fun c2 => ?_)
      · skip
        refine w_ic ?_
        refine w_add ⟨by show (-2147483648 : Int) ≤ (HA2 (k + 3 * mi).toNat) + 0; omega, by show (HA2 (k + 3 * mi).toNat) + 0 < (2147483648 : Int); omega⟩ ?_
        refine w_iast gr.2.2.1 rfl (by decide) (by show (0 : Int) ≤ ((3 * mi) + 3) + k; omega) (by show ((3 * mi) + 3) + k < ((39 : Nat) : Int); omega) ?_
        have hC3 := hC2.h7 (j := (((3 * mi) + 3) + k).toNat) (v := (HA2 (k + 3 * mi).toNat) + 0) gr
        refine w_ii rfl ⟨by show (-2147483648 : Int) ≤ k + 1; omega, by show k + 1 < (2147483648 : Int); omega⟩ ?_
        show wz _ _ _ _ [some (.inr (.inr (some m))), some (.inl (M0.1 s 0)), some (.inl best), some (.inl mi), some (.inl (k + 1))] _ _ _ _ _
        refine w_goto ?_
        refine ih (k + 1) _ _ _ _ (by omega) (by omega) hC3 (fun j hj => (rv_up_n (by omega)).trans (h1 j hj)) (fun q hq => ?_) h
        by_cases eq : (q : Int) = k
        · rw [show 3 * mi.toNat + 3 + q = (((3 * mi) + 3) + k).toNat by omega, rv_up_s, show 3 * mi.toNat + q = 3 * mi.toNat + k.toNat by omega, ← eh]
          rw [if_neg (by omega)]
        · exact (rv_up_n (by omega)).trans (h2 q (by omega))
      · skip
        refine w_aln rfl ?_
        refine w_il rfl ?_
        refine w_iln rfl ?_
        refine w_cv (st := [.inl (HA2 (k + 3 * mi).toNat), .inl (((3 * mi) + 3) + k), .inr (.inr (some (w 347)))]) rfl gm rfl (Nat.le_of_ble_eq_true rfl) (fun kk h => h) ⟨Nat.le_of_ble_eq_true rfl, ?_⟩
        show wz (d + 1) mt_X12_gains.2.2.2.2.1 _ mt_X12_gains.2.2.2.2.1 [some (.inr (.inr (some m))), some (.inl k), some (.inl mi)] [] _ _ _ _
        refine w_aln rfl ?_
        refine w_gr gm rfl (by decide) rfl (hC2.r (m6)) ?_
        refine w_bp ?_
        refine w_iln rfl ?_
        refine w_add ⟨by show (-2147483648 : Int) ≤ 76 + mi; omega, by show 76 + mi < (2147483648 : Int); omega⟩ ?_
        refine w_iald (v := (M0.1 s (mi + 76).toNat)) gs rfl (by show (0 : Int) ≤ 76 + mi; omega) (by show 76 + mi < ((537 : Nat) : Int); omega) ((hC2.sj gr gs).trans (congrArg (M0.1 s) (by show (76 + mi).toNat = (mi + 76).toNat; omega))) ?_
        refine w_aln rfl ?_
        refine w_iln rfl ?_
        refine w_ic ?_
        refine w_cv (st := [.inl (M0.1 s (mi + 76).toNat)]) rfl gm rfl (Nat.le_of_ble_eq_true rfl) (fun kk h => h) ⟨Nat.le_of_ble_eq_true rfl, ?_⟩
        show wz (d) mt_X12_toldOf.2.2.2.2.1 _ mt_X12_toldOf.2.2.2.2.1 [some (.inr (.inr (some m))), some (.inl k), some (.inl 0)] [] _ _ _ _
        refine w_aln rfl ?_
        refine w_gr gm rfl (by decide) rfl (hC2.r (m6)) ?_
        refine w_ic ?_
        refine w_bp ?_
        refine w_iln rfl ?_
        refine w_mul ⟨by show (-2147483648 : Int) ≤ 9 * k; omega, by show 9 * k < (2147483648 : Int); omega⟩ ?_
        refine w_add ⟨by show (-2147483648 : Int) ≤ 4 + (9 * k); omega, by show 4 + (9 * k) < (2147483648 : Int); omega⟩ ?_
        refine w_iln rfl ?_
        refine w_add ⟨by show (-2147483648 : Int) ≤ (4 + (9 * k)) + 0; omega, by show (4 + (9 * k)) + 0 < (2147483648 : Int); omega⟩ ?_
        refine w_iald (v := (M0.1 s (9 * k + 4).toNat)) gs rfl (by show (0 : Int) ≤ (4 + (9 * k)) + 0; omega) (by show (4 + (9 * k)) + 0 < ((537 : Nat) : Int); omega) ((hC2.sj gr gs).trans (congrArg (M0.1 s) (by show ((4 + (9 * k)) + 0).toNat = (9 * k + 4).toNat; omega))) ?_
        refine w_iret (fun q => by cases q) ?_
        refine w_cmle (fun c4 => ?_) (fun c4 => ?_)
        · skip
          refine w_ic ?_
          refine w_iret (fun q => by cases q) ?_
          refine w_goto ?_
          refine w_add ⟨by show (-2147483648 : Int) ≤ (HA2 (k + 3 * mi).toNat) + 0; omega, by show (HA2 (k + 3 * mi).toNat) + 0 < (2147483648 : Int); omega⟩ ?_
          refine w_iast gr.2.2.1 rfl (by decide) (by show (0 : Int) ≤ ((3 * mi) + 3) + k; omega) (by show ((3 * mi) + 3) + k < ((39 : Nat) : Int); omega) ?_
          have hC5 := hC2.h7 (j := (((3 * mi) + 3) + k).toNat) (v := (HA2 (k + 3 * mi).toNat) + 0) gr
          refine w_ii rfl ⟨by show (-2147483648 : Int) ≤ k + 1; omega, by show k + 1 < (2147483648 : Int); omega⟩ ?_
          show wz _ _ _ _ [some (.inr (.inr (some m))), some (.inl (M0.1 s 0)), some (.inl best), some (.inl mi), some (.inl (k + 1))] _ _ _ _ _
          refine w_goto ?_
          refine ih (k + 1) _ _ _ _ (by omega) (by omega) hC5 (fun j hj => (rv_up_n (by omega)).trans (h1 j hj)) (fun q hq => ?_) h
          by_cases eq : (q : Int) = k
          · rw [show 3 * mi.toNat + 3 + q = (((3 * mi) + 3) + k).toNat by omega, rv_up_s, show 3 * mi.toNat + q = 3 * mi.toNat + k.toNat by omega, ← eh]
            rw [if_pos (by omega), show q = k.toNat by omega, cs_gain_i k0 m0, if_neg (by omega)]
          · exact (rv_up_n (by omega)).trans (h2 q (by omega))
        · skip
          refine w_aln rfl ?_
          refine w_gr gm rfl (by decide) rfl (hC2.r (m6)) ?_
          refine w_bp ?_
          refine w_iln rfl ?_
          refine w_add ⟨by show (-2147483648 : Int) ≤ 76 + mi; omega, by show 76 + mi < (2147483648 : Int); omega⟩ ?_
          refine w_iald (v := (M0.1 s (mi + 76).toNat)) gs rfl (by show (0 : Int) ≤ 76 + mi; omega) (by show 76 + mi < ((537 : Nat) : Int); omega) ((hC2.sj gr gs).trans (congrArg (M0.1 s) (by show (76 + mi).toNat = (mi + 76).toNat; omega))) ?_
          refine w_aln rfl ?_
          refine w_iln rfl ?_
          refine w_ic ?_
          refine w_cv (st := [.inl (M0.1 s (mi + 76).toNat)]) rfl gm rfl (Nat.le_of_ble_eq_true rfl) (fun kk h => h) ⟨Nat.le_of_ble_eq_true rfl, ?_⟩
          show wz (d) mt_X12_toldOf.2.2.2.2.1 _ mt_X12_toldOf.2.2.2.2.1 [some (.inr (.inr (some m))), some (.inl k), some (.inl 0)] [] _ _ _ _
          refine w_aln rfl ?_
          refine w_gr gm rfl (by decide) rfl (hC2.r (m6)) ?_
          refine w_ic ?_
          refine w_bp ?_
          refine w_iln rfl ?_
          refine w_mul ⟨by show (-2147483648 : Int) ≤ 9 * k; omega, by show 9 * k < (2147483648 : Int); omega⟩ ?_
          refine w_add ⟨by show (-2147483648 : Int) ≤ 4 + (9 * k); omega, by show 4 + (9 * k) < (2147483648 : Int); omega⟩ ?_
          refine w_iln rfl ?_
          refine w_add ⟨by show (-2147483648 : Int) ≤ (4 + (9 * k)) + 0; omega, by show (4 + (9 * k)) + 0 < (2147483648 : Int); omega⟩ ?_
          refine w_iald (v := (M0.1 s (9 * k + 4).toNat)) gs rfl (by show (0 : Int) ≤ (4 + (9 * k)) + 0; omega) (by show (4 + (9 * k)) + 0 < ((537 : Nat) : Int); omega) ((hC2.sj gr gs).trans (congrArg (M0.1 s) (by show ((4 + (9 * k)) + 0).toNat = (9 * k + 4).toNat; omega))) ?_
          refine w_iret (fun q => by cases q) ?_
          refine w_sub ⟨by show (-2147483648 : Int) ≤ (M0.1 s (mi + 76).toNat) - (M0.1 s (9 * k + 4).toNat); omega, by show (M0.1 s (mi + 76).toNat) - (M0.1 s (9 * k + 4).toNat) < (2147483648 : Int); omega⟩ ?_
          refine w_goto ?_
          refine w_iret (fun q => by cases q) ?_
          refine w_goto ?_
          refine w_add ⟨by show (-2147483648 : Int) ≤ (HA2 (k + 3 * mi).toNat) + ((M0.1 s (mi + 76).toNat) - (M0.1 s (9 * k + 4).toNat)); omega, by show (HA2 (k + 3 * mi).toNat) + ((M0.1 s (mi + 76).toNat) - (M0.1 s (9 * k + 4).toNat)) < (2147483648 : Int); omega⟩ ?_
          refine w_iast gr.2.2.1 rfl (by decide) (by show (0 : Int) ≤ ((3 * mi) + 3) + k; omega) (by show ((3 * mi) + 3) + k < ((39 : Nat) : Int); omega) ?_
          have hC6 := hC2.h7 (j := (((3 * mi) + 3) + k).toNat) (v := (HA2 (k + 3 * mi).toNat) + ((M0.1 s (mi + 76).toNat) - (M0.1 s (9 * k + 4).toNat))) gr
          refine w_ii rfl ⟨by show (-2147483648 : Int) ≤ k + 1; omega, by show k + 1 < (2147483648 : Int); omega⟩ ?_
          show wz _ _ _ _ [some (.inr (.inr (some m))), some (.inl (M0.1 s 0)), some (.inl best), some (.inl mi), some (.inl (k + 1))] _ _ _ _ _
          refine w_goto ?_
          refine ih (k + 1) _ _ _ _ (by omega) (by omega) hC6 (fun j hj => (rv_up_n (by omega)).trans (h1 j hj)) (fun q hq => ?_) h
          by_cases eq : (q : Int) = k
          · rw [show 3 * mi.toNat + 3 + q = (((3 * mi) + 3) + k).toNat by omega, rv_up_s, show 3 * mi.toNat + q = 3 * mi.toNat + k.toNat by omega, ← eh]
            rw [if_pos (by omega), show q = k.toNat by omega, cs_gain_i k0 m0, if_pos (by omega)]
          · exact (rv_up_n (by omega)).trans (h2 q (by omega))
theorem r_pc {G : mj_G} {M0 : mj_M} {m s : Nat} {w : Nat → Nat} {Q : mj_P} {d : Nat} (gr : cp_GR G w) (br : cp_BR M0 w m) (gm : G m = (1012, 0)) (gs : G s = (51100, 537)) (m6 : M0.2.2 m 6 = some s) (hr : rv_r4 (M0.1 s) 0) (t1 : 1 ≤ M0.1 s 0) (t3 : M0.1 s 0 ≤ 3) {M : mj_M} {TR CO HA PL : Nat → Int} (hC : cr_C w M0 TR CO HA PL M) {best : Int} : ∀ (n : Nat) (i : Int) (PL2 : Nat → Int) (M2 : mj_M) (cb sb : Nat), i + n = 12 → 0 ≤ i → cr_C w M0 TR CO HA PL2 M2 → (∀ j : Nat, (j : Int) < i → PL2 j = TR j) → (∀ (PL2 : Nat → Int) (M2 : mj_M) (v4 : Option mj_V) (cb sb : Nat), cr_C w M0 TR CO HA PL2 M2 → (∀ j, j < 12 → PL2 j = TR j) → wz (d + 2) mt_X12_cheapest.2.2.2.2.1 Q (mt_X12_cheapest.2.2.2.2.1.drop 76) [some (.inr (.inr (some m))), some (.inl (M0.1 s 0)), some (.inl best), some (.inl 12), v4] [] G M2 cb sb) → wz (d + 2) mt_X12_cheapest.2.2.2.2.1 Q (mt_X12_cheapest.2.2.2.2.1.drop 63) [some (.inr (.inr (some m))), some (.inl (M0.1 s 0)), some (.inl best), some (.inl 12), some (.inl i)] [] G M2 cb sb := by
  intro n
  induction n with
  | zero =>
    intro i PL2 M2 cb sb e i0 hC2 h1 h
    refine w_il rfl ?_
    refine w_bp ?_
    refine w_cmge (fun c1 => ?_) (fun c1 => ?_)
    · skip
      exact h PL2 M2 _ _ _ hC2 (fun j hj => h1 j (by omega))
    · exfalso; omega
  | succ n ih =>
    intro i PL2 M2 cb sb e i0 hC2 h1 h
    refine w_il rfl ?_
    refine w_bp ?_
    refine w_cmge (fun c1 => ?_) (fun c1 => ?_)
    · exfalso; omega
    · skip
      refine w_aln rfl ?_
      refine w_gr gm rfl (by decide) rfl (hC2.r (br.2.2.2)) ?_
      refine w_il rfl ?_
      refine w_aln rfl ?_
      refine w_gr gm rfl (by decide) rfl (hC2.r (br.1)) ?_
      refine w_il rfl ?_
      refine w_iald (v := (TR i.toNat)) gr.1 rfl (by show (0 : Int) ≤ i; omega) (by show i < ((13 : Nat) : Int); omega) (hC2.2.2.1 _ (by show i.toNat < 13; omega)) ?_
      refine w_iast gr.2.2.2 rfl (by decide) (by show (0 : Int) ≤ i; omega) (by show i < ((12 : Nat) : Int); omega) ?_
      have hC2 := hC2.h8 (j := i.toNat) (v := (TR i.toNat)) gr
      refine w_ii rfl ⟨by show (-2147483648 : Int) ≤ i + 1; omega, by show i + 1 < (2147483648 : Int); omega⟩ ?_
      show wz _ _ _ _ [some (.inr (.inr (some m))), some (.inl (M0.1 s 0)), some (.inl best), some (.inl 12), some (.inl (i + 1))] _ _ _ _ _
      refine w_goto ?_
      refine ih (i + 1) _ _ _ _ (by omega) (by omega) hC2 (fun j hj => ?_) h
      by_cases ej : (j : Int) = i
      · rw [show j = i.toNat by omega, rv_up_s]
      · exact (rv_up_n (by omega)).trans (h1 j (by omega))
end
