/-! ===== the reference's image and restore: names and the PLAIN's number (laid by a program) ===== -/
theorem rq_imA {G : mj_G} {M0 : mj_M} {m s kp : Nat} {k : Nat} {d : Nat} {Q : mj_P} (gm : G m = (1012, 0)) (gs : G s = (51100, 537)) (gk : G kp = (70100, 1076)) (r6 : M0.2.2 m 6 = some s) (r59 : M0.2.2 m 59 = some kp) (hk : k < 2) : ∀ (f i : Nat) (M : mj_M) (cb sb : Nat), i + f = 537 → M.2 = M0.2 → (∀ a, a ≠ kp → M.1 a = M0.1 a) → (∀ M' cb sb, M'.2 = M0.2 → (∀ a, a ≠ kp → M'.1 a = M0.1 a) → wz d mt_X12_image.2.2.2.2.1 Q (mt_X12_image.2.2.2.2.1.drop 29) [some (.inr (.inr (some m))), some (.inl (k : Int)), some (.inl 537)] [] G M' cb sb) → wz d mt_X12_image.2.2.2.2.1 Q (mt_X12_image.2.2.2.2.1.drop 12) [some (.inr (.inr (some m))), some (.inl (k : Int)), some (.inl (i : Int))] [] G M cb sb := by
  intro f
  induction f with
  | zero =>
    intro i M cb sb e h2 h1 kk
    have e : i = 537 := by omega
    subst e
    refine w_iln rfl ?_
    refine w_sp ?_
    refine w_cmge (fun c => ?_) (fun c => by exfalso; omega)
    exact kk M _ _ h2 h1
  | succ f ih =>
    intro i M cb sb e h2 h1 kk
    refine w_iln rfl ?_
    refine w_sp ?_
    refine w_cmge (fun c => by exfalso; omega) (fun c => ?_)
    refine w_aln rfl ?_
    refine w_gr gm rfl (by decide) rfl (by rw [h2]; exact r59) ?_
    refine w_sp ?_
    refine w_iln rfl ?_
    refine w_mul ⟨by omega, by omega⟩ ?_
    refine w_iln rfl ?_
    refine w_add ⟨by omega, by omega⟩ ?_
    refine w_aln rfl ?_
    refine w_gr gm rfl (by decide) rfl (by rw [h2]; exact r6) ?_
    refine w_iln rfl ?_
    refine w_iald (v := M.1 s (i : Int).toNat) gs rfl (by omega) (by show (i : Int) < ((537 : Nat) : Int); omega) rfl ?_
    refine w_iast gk rfl (by decide) (by omega) (by show 538 * (k : Int) + (i : Int) < ((1076 : Nat) : Int); omega) ?_
    refine w_ii rfl ⟨by omega, by omega⟩ ?_
    refine w_goto ?_
    exact ih (i + 1) _ _ _ (by omega) h2 (fun a ha => (wz_c ha).trans (h1 a ha)) kk
theorem rq_reA {G : mj_G} {M0 : mj_M} {m s kp : Nat} {k : Nat} {d : Nat} {Q : mj_P} (gm : G m = (1012, 0)) (gs : G s = (51100, 537)) (gk : G kp = (70100, 1076)) (r6 : M0.2.2 m 6 = some s) (r59 : M0.2.2 m 59 = some kp) (hk : k < 2) : ∀ (f i : Nat) (M : mj_M) (cb sb : Nat), i + f = 537 → M.2 = M0.2 → (∀ a, a ≠ s → M.1 a = M0.1 a) → (∀ M' cb sb, M'.2 = M0.2 → (∀ a, a ≠ s → M'.1 a = M0.1 a) → wz d mt_X12_restore.2.2.2.2.1 Q (mt_X12_restore.2.2.2.2.1.drop 34) [some (.inr (.inr (some m))), some (.inl (k : Int)), some (.inl 537)] [] G M' cb sb) → wz d mt_X12_restore.2.2.2.2.1 Q (mt_X12_restore.2.2.2.2.1.drop 17) [some (.inr (.inr (some m))), some (.inl (k : Int)), some (.inl (i : Int))] [] G M cb sb := by
  intro f
  induction f with
  | zero =>
    intro i M cb sb e h2 h1 kk
    have e : i = 537 := by omega
    subst e
    refine w_iln rfl ?_
    refine w_sp ?_
    refine w_cmge (fun c => ?_) (fun c => by exfalso; omega)
    exact kk M _ _ h2 h1
  | succ f ih =>
    intro i M cb sb e h2 h1 kk
    refine w_iln rfl ?_
    refine w_sp ?_
    refine w_cmge (fun c => by exfalso; omega) (fun c => ?_)
    refine w_aln rfl ?_
    refine w_gr gm rfl (by decide) rfl (by rw [h2]; exact r6) ?_
    refine w_iln rfl ?_
    refine w_aln rfl ?_
    refine w_gr gm rfl (by decide) rfl (by rw [h2]; exact r59) ?_
    refine w_sp ?_
    refine w_iln rfl ?_
    refine w_mul ⟨by omega, by omega⟩ ?_
    refine w_iln rfl ?_
    refine w_add ⟨by omega, by omega⟩ ?_
    refine w_iald (v := M.1 kp (538 * (k : Int) + (i : Int)).toNat) gk rfl (by omega) (by show 538 * (k : Int) + (i : Int) < ((1076 : Nat) : Int); omega) rfl ?_
    refine w_iast gs rfl (by decide) (by omega) (by show (i : Int) < ((537 : Nat) : Int); omega) ?_
    refine w_ii rfl ⟨by omega, by omega⟩ ?_
    refine w_goto ?_
    exact ih (i + 1) _ _ _ (by omega) h2 (fun a ha => (wz_c ha).trans (h1 a ha)) kk
theorem rq_imB {G : mj_G} {M0 : mj_M} {m nk ns : Nat} {k : Nat} {d : Nat} {Q : mj_P} (gm : G m = (1012, 0)) (gnk : G nk = (71103, 16)) (gns : G ns = (54103, 16)) (r9 : M0.2.2 m 9 = some ns) (r60 : M0.2.2 m 60 = some nk) (hk : k < 2) : ∀ (f i : Nat) (M : mj_M) (cb sb : Nat), i + f = 8 → M.1 = M0.1 → M.2.2 = M0.2.2 → (∀ j, j < i → M.2.1 nk (8 * k + j) = M0.2.1 ns j) → (∀ a j, ¬ (a = nk ∧ 8 * k ≤ j ∧ j < 8 * k + 8) → M.2.1 a j = M0.2.1 a j) → (∀ M' cb sb, M'.1 = M0.1 → M'.2.2 = M0.2.2 → (∀ j, j < 8 → M'.2.1 nk (8 * k + j) = M0.2.1 ns j) → (∀ a j, ¬ (a = nk ∧ 8 * k ≤ j ∧ j < 8 * k + 8) → M'.2.1 a j = M0.2.1 a j) → wz d mt_X12_image.2.2.2.2.1 Q (mt_X12_image.2.2.2.2.1.drop 58) [some (.inr (.inr (some m))), some (.inl (k : Int)), some (.inl 8)] [] G M' cb sb) → wz d mt_X12_image.2.2.2.2.1 Q (mt_X12_image.2.2.2.2.1.drop 41) [some (.inr (.inr (some m))), some (.inl (k : Int)), some (.inl (i : Int))] [] G M cb sb := by
  have nn : ns ≠ nk := hn_ne gns gnk (by decide)
  intro f
  induction f with
  | zero =>
    intro i M cb sb e h1 h2 h3 h4 kk
    have e : i = 8 := by omega
    subst e
    refine w_iln rfl ?_
    refine w_bp ?_
    refine w_cmge (fun c => ?_) (fun c => by exfalso; omega)
    exact kk M _ _ h1 h2 h3 h4
  | succ f ih =>
    intro i M cb sb e h1 h2 h3 h4 kk
    refine w_iln rfl ?_
    refine w_bp ?_
    refine w_cmge (fun c => by exfalso; omega) (fun c => ?_)
    refine w_aln rfl ?_
    refine w_gr gm rfl (by decide) rfl (by rw [h2]; exact r60) ?_
    refine w_bp ?_
    refine w_iln rfl ?_
    refine w_mul ⟨by omega, by omega⟩ ?_
    refine w_iln rfl ?_
    refine w_add ⟨by omega, by omega⟩ ?_
    refine w_aln rfl ?_
    refine w_gr gm rfl (by decide) rfl (by rw [h2]; exact r9) ?_
    refine w_iln rfl ?_
    refine w_lald (v := M0.2.1 ns i) gns rfl (by omega) (by show (i : Int) < ((16 : Nat) : Int); omega) (by rw [show ((i : Int)).toNat = i by omega]; exact h4 ns i (fun q => nn q.1)) ?_
    refine w_last gnk rfl (by decide) (by omega) (by show 8 * (k : Int) + (i : Int) < ((16 : Nat) : Int); omega) ?_
    refine w_ii rfl ⟨by omega, by omega⟩ ?_
    refine w_goto ?_
    rw [show (8 * (k : Int) + (i : Int)).toNat = 8 * k + i by omega]
    refine ih (i + 1) _ _ _ (by omega) h1 h2 (fun j hj => ?_) (fun a j hn => (wz_nl ?_).trans (h4 a j hn)) kk
    · rcases Nat.lt_or_ge j i with q | q
      · exact (wz_nl (Or.inr (by omega))).trans (h3 j q)
      · rw [show j = i by omega]; exact wz_sl
    · by_cases q : a = nk
      · exact Or.inr (fun e => hn ⟨q, by omega, by omega⟩)
      · exact Or.inl q
theorem rq_reB {G : mj_G} {M0 : mj_M} {m nk ns : Nat} {k : Nat} {d : Nat} {Q : mj_P} (gm : G m = (1012, 0)) (gnk : G nk = (71103, 16)) (gns : G ns = (54103, 16)) (r9 : M0.2.2 m 9 = some ns) (r60 : M0.2.2 m 60 = some nk) (hk : k < 2) : ∀ (f i : Nat) (M : mj_M) (cb sb : Nat), i + f = 8 → M.1 = M0.1 → M.2.2 = M0.2.2 → (∀ j, j < i → M.2.1 ns j = M0.2.1 nk (8 * k + j)) → (∀ a j, ¬ (a = ns ∧ j < 8) → M.2.1 a j = M0.2.1 a j) → (∀ M' cb sb, M'.1 = M0.1 → M'.2.2 = M0.2.2 → (∀ j, j < 8 → M'.2.1 ns j = M0.2.1 nk (8 * k + j)) → (∀ a j, ¬ (a = ns ∧ j < 8) → M'.2.1 a j = M0.2.1 a j) → wz d mt_X12_restore.2.2.2.2.1 Q (mt_X12_restore.2.2.2.2.1.drop 63) [some (.inr (.inr (some m))), some (.inl (k : Int)), some (.inl 8)] [] G M' cb sb) → wz d mt_X12_restore.2.2.2.2.1 Q (mt_X12_restore.2.2.2.2.1.drop 46) [some (.inr (.inr (some m))), some (.inl (k : Int)), some (.inl (i : Int))] [] G M cb sb := by
  have nn : nk ≠ ns := hn_ne gnk gns (by decide)
  intro f
  induction f with
  | zero =>
    intro i M cb sb e h1 h2 h3 h4 kk
    have e : i = 8 := by omega
    subst e
    refine w_iln rfl ?_
    refine w_bp ?_
    refine w_cmge (fun c => ?_) (fun c => by exfalso; omega)
    exact kk M _ _ h1 h2 h3 h4
  | succ f ih =>
    intro i M cb sb e h1 h2 h3 h4 kk
    refine w_iln rfl ?_
    refine w_bp ?_
    refine w_cmge (fun c => by exfalso; omega) (fun c => ?_)
    refine w_aln rfl ?_
    refine w_gr gm rfl (by decide) rfl (by rw [h2]; exact r9) ?_
    refine w_iln rfl ?_
    refine w_aln rfl ?_
    refine w_gr gm rfl (by decide) rfl (by rw [h2]; exact r60) ?_
    refine w_bp ?_
    refine w_iln rfl ?_
    refine w_mul ⟨by omega, by omega⟩ ?_
    refine w_iln rfl ?_
    refine w_add ⟨by omega, by omega⟩ ?_
    refine w_lald (v := M0.2.1 nk (8 * k + i)) gnk rfl (by omega) (by show 8 * (k : Int) + (i : Int) < ((16 : Nat) : Int); omega) (by rw [show (8 * (k : Int) + (i : Int)).toNat = 8 * k + i by omega]; exact h4 nk _ (fun q => nn q.1)) ?_
    refine w_last gns rfl (by decide) (by omega) (by show (i : Int) < ((16 : Nat) : Int); omega) ?_
    refine w_ii rfl ⟨by omega, by omega⟩ ?_
    refine w_goto ?_
    rw [show ((i : Int)).toNat = i by omega]
    refine ih (i + 1) _ _ _ (by omega) h1 h2 (fun j hj => ?_) (fun a j hn => (wz_nl ?_).trans (h4 a j hn)) kk
    · rcases Nat.lt_or_ge j i with q | q
      · exact (wz_nl (Or.inr (by omega))).trans (h3 j q)
      · rw [show j = i by omega]; exact wz_sl
    · by_cases q : a = ns
      · exact Or.inr (fun e => hn ⟨q, by omega⟩)
      · exact Or.inl q
/-- what image, restore of the reference tell of names and the PLAIN's number -/
def rq_mz (M M' : mj_M) (m kp nk ns : Nat) (z1 : Int) : Prop := (¬ (0 ≤ z1 ∧ z1 ≤ 1) → M'.2.1 = M.2.1 ∧ (∀ a, a ≠ m → M'.1 a = M.1 a) ∧ M'.1 m 25 = M.1 m 25) ∧ (∀ k : Nat, k < 2 → z1 = (k : Int) → (∀ j, j < 8 → M'.2.1 nk (8 * k + j) = M.2.1 ns j) ∧ (∀ a j, ¬ (a = nk ∧ 8 * k ≤ j ∧ j < 8 * k + 8) → M'.2.1 a j = M.2.1 a j) ∧ M'.1 kp (538 * k + 537) = M.1 m 25 ∧ M'.1 m 25 = M.1 m 25)
def rq_rz (M M' : mj_M) (m kp nk ns ik : Nat) (z1 : Int) : Prop := ((¬ (0 ≤ z1 ∧ z1 ≤ 1) ∨ M.1 ik z1.toNat = 0) → M'.2.1 = M.2.1 ∧ (∀ a, a ≠ m → M'.1 a = M.1 a) ∧ M'.1 m 25 = M.1 m 25) ∧ (∀ k : Nat, k < 2 → z1 = (k : Int) → M.1 ik k ≠ 0 → (∀ j, j < 8 → M'.2.1 ns j = M.2.1 nk (8 * k + j)) ∧ (∀ a j, ¬ (a = ns ∧ j < 8) → M'.2.1 a j = M.2.1 a j) ∧ M'.1 m 25 = M.1 kp (538 * k + 537))
theorem rq_image {G : mj_G} {M : mj_M} {m s kp nk ns ik : Nat} {z1 : Int} {d : Nat} (gm : G m = (1012, 0)) (gs : G s = (51100, 537)) (gk : G kp = (70100, 1076)) (gnk : G nk = (71103, 16)) (gns : G ns = (54103, 16)) (gik : G ik = (72102, 2)) (r6 : M.2.2 m 6 = some s) (r59 : M.2.2 m 59 = some kp) (r60 : M.2.2 m 60 = some nk) (r9 : M.2.2 m 9 = some ns) (r61 : M.2.2 m 61 = some ik) : mj_R mj_tab (d + 2) 195 [.inr (.inr (some m)), .inl z1] G M (fun _ _ M' => rq_mz M M' m kp nk ns z1) := by
  refine ⟨Nat.le_of_ble_eq_true rfl, ?_⟩
  show wz (d + 1) mt_X12_image.2.2.2.2.1 _ mt_X12_image.2.2.2.2.1 [some (.inr (.inr (some m))), some (.inl z1), none] [] G M _ _
  have bad : ¬ (0 ≤ z1 ∧ z1 ≤ 1) → ∀ cb sb, wz (d + 1) mt_X12_image.2.2.2.2.1 (fun _ _ M' => rq_mz M M' m kp nk ns z1) (mt_X12_image.2.2.2.2.1.drop 7) [some (.inr (.inr (some m))), some (.inl z1), none] [.inl 0] G (mj_p0 M m 0 0) cb sb := fun hn cb sb => by
    refine w_ifne (fun c => absurd rfl c) (fun _ => ?_)
    refine w_ic ?_
    exact w_iret (fun _ => Or.inl rfl) ⟨fun _ => ⟨rfl, fun a ha => wz_c ha, hn_n (Or.inr (by decide))⟩, fun k hk e => absurd ⟨by omega, by omega⟩ hn⟩
  refine w_aln rfl ?_
  refine w_ic ?_
  refine w_pi gm rfl (by decide) rfl (fun q => by cases q) ?_
  refine w_iln rfl ?_
  refine w_ic ?_
  refine w_ic ?_
  refine w_cs (st := []) rfl (Nat.le_of_ble_eq_true rfl) (fun kk h => h) ⟨Nat.le_of_ble_eq_true rfl, ?_⟩
  show wz d mt_X12_isIn.2.2.2.2.1 _ mt_X12_isIn.2.2.2.2.1 [some (.inl z1), some (.inl 0), some (.inl 1)] [] _ _ _ _
  refine w_iln rfl ?_
  refine w_iln rfl ?_
  refine w_cmlt (fun c1 => ?_) (fun c1 => ?_)
  · refine w_ic ?_
    refine w_iret (fun _ => Or.inl rfl) ?_
    exact bad (by omega) _ _
  refine w_iln rfl ?_
  refine w_iln rfl ?_
  refine w_cmgt (fun c2 => ?_) (fun c2 => ?_)
  · refine w_ic ?_
    refine w_iret (fun _ => Or.inl rfl) ?_
    exact bad (by omega) _ _
  refine w_ic ?_
  refine w_goto ?_
  refine w_iret (fun _ => Or.inr rfl) ?_
  obtain ⟨k, hk, ek⟩ : ∃ k : Nat, k < 2 ∧ z1 = (k : Int) := ⟨z1.toNat, by omega, by omega⟩
  subst ek
  refine w_ifne (fun _ => ?_) (fun c => absurd c (by decide))
  refine w_ic ?_
  refine w_isn ?_
  refine rq_imA (M0 := mj_p0 M m 0 0) gm gs gk r6 r59 hk 537 0 _ _ _ (by omega) rfl (fun _ _ => rfl) (fun M1 cb sb u2 u1 => ?_)
  refine w_aln rfl ?_
  refine w_gr gm rfl (by decide) rfl (by rw [u2]; exact r59) ?_
  refine w_sp ?_
  refine w_iln rfl ?_
  refine w_mul ⟨by omega, by omega⟩ ?_
  refine w_sp ?_
  refine w_add ⟨by omega, by omega⟩ ?_
  refine w_aln rfl ?_
  have mk : m ≠ kp := hn_ne gm gk (by decide)
  refine w_gi (v := M.1 m 25) gm rfl (by decide) rfl ((congrFun (u1 m mk) 25).trans (hn_n (Or.inr (by decide)))) ?_
  refine w_iast gk rfl (by decide) (by omega) (by show 538 * (k : Int) + 537 < ((1076 : Nat) : Int); omega) ?_
  rw [show (538 * (k : Int) + 537).toNat = 538 * k + 537 by omega]
  refine w_ic ?_
  refine w_isn ?_
  refine rq_imB (M0 := mj_p0 M1 kp (538 * k + 537) (M.1 m 25)) gm gnk gns (by show M1.2.2 m 9 = _; rw [u2]; exact r9) (by show M1.2.2 m 60 = _; rw [u2]; exact r60) hk 8 0 _ _ _ (by omega) rfl rfl (fun j hj => absurd hj (Nat.not_lt_zero j)) (fun _ _ _ => rfl) (fun M2 cb sb v1 v2 v3 v4 => ?_)
  refine w_aln rfl ?_
  refine w_gr gm rfl (by decide) rfl (by rw [v2]; show M1.2.2 m 61 = _; rw [u2]; exact r61) ?_
  refine w_iln rfl ?_
  refine w_ic ?_
  refine w_zast (Or.inr rfl) gik rfl (by decide) (by omega) (by show (k : Int) < ((2 : Nat) : Int); omega) ?_
  refine w_ic ?_
  refine w_iret (fun _ => Or.inr rfl) ⟨fun n => absurd ⟨by omega, by omega⟩ n, fun k' hk' e => ?_⟩
  obtain rfl : k' = k := by omega
  refine ⟨fun j hj => ?_, fun a j hn => ?_, ?_, ?_⟩
  · show M2.2.1 nk (8 * k' + j) = _
    rw [v3 j hj]; show M1.2.1 ns j = _; rw [u2]; rfl
  · show M2.2.1 a j = _
    rw [v4 a j hn]; show M1.2.1 a j = _; rw [u2]; rfl
  · refine (hn_n (Or.inl (hn_ne gk gik (by decide)))).trans ?_
    rw [v1]; exact hn_s
  · refine (hn_n (Or.inl (hn_ne gm gik (by decide)))).trans ?_
    rw [v1]; exact (hn_n (Or.inl mk)).trans ((congrFun (u1 m mk) 25).trans (hn_n (Or.inr (by decide))))
theorem rq_restore {G : mj_G} {M : mj_M} {m s kp nk ns ik : Nat} {z1 : Int} {d : Nat} (gm : G m = (1012, 0)) (gs : G s = (51100, 537)) (gk : G kp = (70100, 1076)) (gnk : G nk = (71103, 16)) (gns : G ns = (54103, 16)) (gik : G ik = (72102, 2)) (r6 : M.2.2 m 6 = some s) (r59 : M.2.2 m 59 = some kp) (r60 : M.2.2 m 60 = some nk) (r9 : M.2.2 m 9 = some ns) (r61 : M.2.2 m 61 = some ik) : mj_R mj_tab (d + 2) 235 [.inr (.inr (some m)), .inl z1] G M (fun _ _ M' => rq_rz M M' m kp nk ns ik z1) := by
  refine ⟨Nat.le_of_ble_eq_true rfl, ?_⟩
  show wz (d + 1) mt_X12_restore.2.2.2.2.1 _ mt_X12_restore.2.2.2.2.1 [some (.inr (.inr (some m))), some (.inl z1), none] [] G M _ _
  have bad2 : (¬ (0 ≤ z1 ∧ z1 ≤ 1) ∨ M.1 ik z1.toNat = 0) → ∀ cb sb, wz (d + 1) mt_X12_restore.2.2.2.2.1 (fun _ _ M' => rq_rz M M' m kp nk ns ik z1) (mt_X12_restore.2.2.2.2.1.drop 13) [some (.inr (.inr (some m))), some (.inl z1), none] [] G (mj_p0 M m 0 0) cb sb := fun hn cb sb => by
    refine w_ic ?_
    refine w_iret (fun _ => Or.inl rfl) ⟨fun _ => ⟨rfl, fun a ha => wz_c ha, hn_n (Or.inr (by decide))⟩, fun k hk e h0 => ?_⟩
    rcases hn with hn | hn
    · exact absurd ⟨by omega, by omega⟩ hn
    · rw [e] at hn; exact absurd hn h0
  have bad : ¬ (0 ≤ z1 ∧ z1 ≤ 1) → ∀ cb sb, wz (d + 1) mt_X12_restore.2.2.2.2.1 (fun _ _ M' => rq_rz M M' m kp nk ns ik z1) (mt_X12_restore.2.2.2.2.1.drop 7) [some (.inr (.inr (some m))), some (.inl z1), none] [.inl 0] G (mj_p0 M m 0 0) cb sb := fun hn cb sb => by
    refine w_ifeq (fun _ => bad2 (Or.inl hn) _ _) (fun c => absurd rfl c)
  refine w_aln rfl ?_
  refine w_ic ?_
  refine w_pi gm rfl (by decide) rfl (fun q => by cases q) ?_
  refine w_iln rfl ?_
  refine w_ic ?_
  refine w_ic ?_
  refine w_cs (st := []) rfl (Nat.le_of_ble_eq_true rfl) (fun kk h => h) ⟨Nat.le_of_ble_eq_true rfl, ?_⟩
  show wz d mt_X12_isIn.2.2.2.2.1 _ mt_X12_isIn.2.2.2.2.1 [some (.inl z1), some (.inl 0), some (.inl 1)] [] _ _ _ _
  refine w_iln rfl ?_
  refine w_iln rfl ?_
  refine w_cmlt (fun c1 => ?_) (fun c1 => ?_)
  · refine w_ic ?_
    refine w_iret (fun _ => Or.inl rfl) ?_
    exact bad (by omega) _ _
  refine w_iln rfl ?_
  refine w_iln rfl ?_
  refine w_cmgt (fun c2 => ?_) (fun c2 => ?_)
  · refine w_ic ?_
    refine w_iret (fun _ => Or.inl rfl) ?_
    exact bad (by omega) _ _
  refine w_ic ?_
  refine w_goto ?_
  refine w_iret (fun _ => Or.inr rfl) ?_
  obtain ⟨k, hk, ek⟩ : ∃ k : Nat, k < 2 ∧ z1 = (k : Int) := ⟨z1.toNat, by omega, by omega⟩
  subst ek
  refine w_ifeq (fun c => absurd c (by decide)) (fun _ => ?_)
  refine w_aln rfl ?_
  refine w_gr gm rfl (by decide) rfl r61 ?_
  refine w_iln rfl ?_
  refine w_zald (v := M.1 ik k) gik rfl (by omega) (by show (k : Int) < ((2 : Nat) : Int); omega) (by rw [show ((k : Int)).toNat = k by omega]; exact hn_n (Or.inl (hn_ne gik gm (by decide)))) ?_
  refine w_ifne (fun c3 => ?_) (fun c3 => bad2 (Or.inr (by rw [show ((k : Int)).toNat = k by omega]; exact c3)) _ _)
  refine w_ic ?_
  refine w_isn ?_
  refine rq_reA (M0 := mj_p0 M m 0 0) gm gs gk r6 r59 hk 537 0 _ _ _ (by omega) rfl (fun _ _ => rfl) (fun M1 cb sb u2 u1 => ?_)
  refine w_aln rfl ?_
  refine w_aln rfl ?_
  refine w_gr gm rfl (by decide) rfl (by rw [u2]; exact r59) ?_
  refine w_sp ?_
  refine w_iln rfl ?_
  refine w_mul ⟨by omega, by omega⟩ ?_
  refine w_sp ?_
  refine w_add ⟨by omega, by omega⟩ ?_
  refine w_iald (v := M.1 kp (538 * k + 537)) gk rfl (by omega) (by show 538 * (k : Int) + 537 < ((1076 : Nat) : Int); omega) (by rw [show (538 * (k : Int) + 537).toNat = 538 * k + 537 by omega]; exact (congrFun (u1 kp (hn_ne gk gs (by decide))) _).trans (hn_n (Or.inl (hn_ne gk gm (by decide))))) ?_
  refine w_pi gm rfl (by decide) rfl (fun q => by cases q) ?_
  refine w_ic ?_
  refine w_isn ?_
  refine rq_reB (M0 := mj_p0 M1 m 25 (M.1 kp (538 * k + 537))) gm gnk gns (by show M1.2.2 m 9 = _; rw [u2]; exact r9) (by show M1.2.2 m 60 = _; rw [u2]; exact r60) hk 8 0 _ _ _ (by omega) rfl rfl (fun j hj => absurd hj (Nat.not_lt_zero j)) (fun _ _ _ => rfl) (fun M2 cb sb v1 v2 v3 v4 => ?_)
  refine w_aln rfl ?_
  refine w_ic ?_
  refine w_pi gm rfl (by decide) rfl (fun q => by cases q) ?_
  refine w_ic ?_
  refine w_iret (fun _ => Or.inr rfl) ⟨fun n => ?_, fun k' hk' e h0 => ?_⟩
  · exfalso
    rcases n with n | n
    · exact n ⟨by omega, by omega⟩
    · rw [show ((k : Int)).toNat = k by omega] at n; exact c3 n
  obtain rfl : k' = k := by omega
  refine ⟨fun j hj => ?_, fun a j hn => ?_, ?_⟩
  · show M2.2.1 ns j = _
    rw [v3 j hj]; show M1.2.1 nk (8 * k' + j) = _; rw [u2]; rfl
  · show M2.2.1 a j = _
    rw [v4 a j hn]; show M1.2.1 a j = _; rw [u2]; rfl
  · refine (hn_n (Or.inr (by decide))).trans ?_
    rw [v1]; exact hn_s
