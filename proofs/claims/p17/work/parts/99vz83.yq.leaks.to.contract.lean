section
/-! ===== leaks of the reference: s is told back (laid by a program) ===== -/
/-- before it thinks: all but m's own marks is as it was -/
def lk_A (m : Nat) (M M' : mj_M) : Prop := M'.2 = M.2 ∧ (∀ a, a ≠ m → M'.1 a = M.1 a) ∧ M'.1 m 32 = M.1 m 32 ∧ M'.1 m 3 = M.1 m 2
/-- while it thinks -/
def lk_B (G : mj_G) (m s bf rw_ : Nat) (M M' : mj_M) : Prop := ab_Inv G M' ∧ M'.2.2 m 6 = some s ∧ M'.2.2 m 45 = some bf ∧ M'.2.2 m 48 = some rw_ ∧ (∀ k, k < 135 → M'.1 bf k = M.1 s (221 + k)) ∧ (∀ j, j < 221 ∨ (356 ≤ j ∧ j < 537) → M'.1 s j = M.1 s j)
section LKS
variable {G : mj_G} {M M' M1 : mj_M} {m s bf rw_ : Nat} {Q : mj_P}
theorem lk_B.fr {W : List (Nat × Nat × Nat)} (h : lk_B G m s bf rw_ M M1) (gm : G m = (1012, 0)) (gs : G s = (51100, 537)) (gf : G bf = (64100, 135)) (I : ab_Inv G M') (f : ab_frm W G M1 M') (cW : ∀ q ∈ W, q.1 ≠ 64100 ∧ (q.1 ≠ 51100 ∨ (221 ≤ q.2.1 ∧ q.2.2 < 356)) ∧ (q.1 ≠ 1012 ∨ (29 ≤ q.2.1 ∧ q.2.2 ≤ 31))) : lk_B G m s bf rw_ M M' := by
  obtain ⟨-, h6, h45, h48, hb, hs⟩ := h
  have fm : ∀ k, k < 29 ∨ 31 < k → M'.2.2 m k = M1.2.2 m k := fun k hk => (f m k (by rw [gm]; rintro ⟨r, hr, e1, e2, e3⟩; have := (cW r hr).2.2; omega)).2
  exact ⟨I, (fm 6 (by decide)).trans h6, (fm 45 (by decide)).trans h45, (fm 48 (by decide)).trans h48, fun k hk => (f bf k (by rw [gf]; rintro ⟨r, hr, e1, e2, e3⟩; exact (cW r hr).1 e1)).1.trans (hb k hk), fun j hj => (f s j (by rw [gs]; rintro ⟨r, hr, e1, e2, e3⟩; have := (cW r hr).2.1; omega)).1.trans (hs j hj)⟩
theorem lk_B.pm (h : lk_B G m s bf rw_ M M1) (gm : G m = (1012, 0)) (gs : G s = (51100, 537)) (gf : G bf = (64100, 135)) {k : Nat} {v : Int} (hv : (ab_rg 1012 k).1 ≤ v ∧ v ≤ (ab_rg 1012 k).2) : lk_B G m s bf rw_ M (mj_p0 M1 m k v) := ⟨h.1.p0 (by rw [gm]; exact hv), h.2.1, h.2.2.1, h.2.2.2.1, fun j hj => (congrFun (wz_c (hn_ne gf gm (by decide))) j).trans (h.2.2.2.2.1 j hj), fun j hj => (congrFun (wz_c (hn_ne gs gm (by decide))) j).trans (h.2.2.2.2.2 j hj)⟩
theorem lk_B.pr (h : lk_B G m s bf rw_ M M1) (gr : G rw_ = (66100, 120)) (gs : G s = (51100, 537)) (gf : G bf = (64100, 135)) {k : Nat} {v : Int} (hv : (ab_rg 66100 k).1 ≤ v ∧ v ≤ (ab_rg 66100 k).2) : lk_B G m s bf rw_ M (mj_p0 M1 rw_ k v) := ⟨h.1.p0 (by rw [gr]; exact hv), h.2.1, h.2.2.1, h.2.2.2.1, fun j hj => (congrFun (wz_c (hn_ne gf gr (by decide))) j).trans (h.2.2.2.2.1 j hj), fun j hj => (congrFun (wz_c (hn_ne gs gr (by decide))) j).trans (h.2.2.2.2.2 j hj)⟩
theorem r_areLevels {dd : Nat} {z : Int} (hd : ab_h cd_155 ≤ dd) (hI : ab_Inv G M) (gm : G m = (1012, 0)) (hz : 0 ≤ z ∧ z ≤ 400) (hQ : ∀ z' M', ab_Inv G M' → ab_frm (ab_w cd_155) G M M' → Q (some (.inl z')) G M') : mj_R mj_tab (dd + 1) 160 [.inr (.inr (some m)), .inl z] G M Q := by
  refine ab_all_ok 223 (Nat.le_refl _) 164 (by decide) dd hd G M (1, hn_g [z], 1, fun _ => some m) _ Q (hn_Y1 hz) (lw_RR gm (by decide) (by decide) (by decide)) (fun e he => by cases he) ⟨_, _, rfl, ⟨Nat.zero_lt_one, rfl⟩, _, _, rfl, ⟨_, rfl, hn_I (Nat.le_of_ble_eq_true rfl) rfl⟩, rfl⟩ hI (fun r M' i f ⟨po, hpo, h⟩ => ?_)
  obtain ⟨z', rfl⟩ := lw_r (List.all_eq_true.mp (by decide +kernel : (ab_o cd_155).all (fun po => lw_ii po.1) = true) po hpo) h
  exact hQ z' M' i f
theorem lk_mul {a b : Int} (a0 : 0 ≤ a) (a1 : a ≤ 17) (b0 : 0 ≤ b) (b1 : b ≤ 12) : 0 ≤ a * b ∧ a * b ≤ 204 := by
  have h1 : 0 ≤ a * b := Int.mul_nonneg a0 b0
  have h2 : a * b ≤ 17 * 12 := Int.mul_le_mul a1 b1 b0 (by decide)
  exact ⟨h1, by omega⟩
theorem lk_mul2 {a b : Int} (a0 : 0 ≤ a) : b ≤ 0 ∨ a ≤ a * b := by
  by_cases h : b ≤ 0
  · exact Or.inl h
  · have q : a * 1 ≤ a * b := Int.mul_le_mul_of_nonneg_left (by omega) a0
    rw [Int.mul_one] at q
    exact Or.inr q
end LKS
theorem r_lk1 {G : mj_G} {M : mj_M} {m bt : Nat} {Q : mj_P} {n1 n2 : Int} (gm : G m = (1012, 0)) (gbt : G bt = (50101, 940)) (m1 : M.2.2 m 1 = some bt) (a1 : 1 ≤ n1) (a2 : n1 ≤ 17) (b1 : 1 ≤ n2) (b2 : n2 ≤ 12) (h0 : Q (some (.inl (-1))) G M) (h : ∀ cb sb, wz 39 mt_X12_leaks.2.2.2.2.1 Q (mt_X12_leaks.2.2.2.2.1.drop 71) [some (.inr (.inr (some m))), some (.inl n1), some (.inl n2), some (.inl n2), none, none, none] [] G M cb sb) : ∀ (f : Nat) (i : Int) (cb sb : Nat), i + f = n2 → 0 ≤ i → wz 39 mt_X12_leaks.2.2.2.2.1 Q (mt_X12_leaks.2.2.2.2.1.drop 42) [some (.inr (.inr (some m))), some (.inl n1), some (.inl n2), some (.inl i), none, none, none] [] G M cb sb := by
  intro f
  induction f with
  | zero =>
    intro i cb sb e i0
    obtain rfl : n2 = i := by omega
    refine w_iln rfl ?_
    refine w_iln rfl ?_
    refine w_cmge (fun c1 => ?_) (fun c1 => ?_)
    · skip
      exact h _ _
    · exfalso; omega
  | succ f ih =>
    intro i cb sb e i0
    refine w_iln rfl ?_
    refine w_iln rfl ?_
    refine w_cmge (fun c1 => ?_) (fun c1 => ?_)
    · exfalso; omega
    · skip
      refine w_aln rfl ?_
      refine w_iln rfl ?_
      refine w_iln rfl ?_
      have hq2 : 0 ≤ n1 * i ∧ n1 * i ≤ 204 := lk_mul (by omega) (by omega) (by omega) (by omega)
      have hq2b := lk_mul2 (a := n1) (b := i) (by omega)
      refine w_mul ⟨by show (-2147483648 : Int) ≤ n1 * i; omega, by show n1 * i < (2147483648 : Int); omega⟩ ?_
      refine w_cv (st := []) rfl gm rfl (Nat.le_of_ble_eq_true rfl) (fun kk h => h) ⟨Nat.le_of_ble_eq_true rfl, ?_⟩
      show wz (38) mt_X12_octet.2.2.2.2.1 _ mt_X12_octet.2.2.2.2.1 [some (.inr (.inr (some m))), some (.inl (n1 * i))] [] _ _ _ _
      refine w_aln rfl ?_
      refine w_gr gm rfl (by decide) rfl (m1) ?_
      refine w_iln rfl ?_
      refine w_bald (v := (M.1 bt (n1 * i).toNat)) gbt rfl (by show (0 : Int) ≤ n1 * i; omega) (by show n1 * i < ((940 : Nat) : Int); omega) (rfl) ?_
      refine w_sp ?_
      refine w_and ?_
      intro z3 hz3 ez3
      refine w_iret (fun q => by cases q) ?_
      refine w_cs (st := []) rfl (Nat.le_of_ble_eq_true rfl) (fun kk h => h) ⟨Nat.le_of_ble_eq_true rfl, ?_⟩
      show wz (38) mt_X12_isMonth.2.2.2.2.1 _ mt_X12_isMonth.2.2.2.2.1 [some (.inl z3)] [] _ _ _ _
      refine w_iln rfl ?_
      refine w_ic ?_
      refine w_bp ?_
      refine w_cs (st := []) rfl (Nat.le_of_ble_eq_true rfl) (fun kk h => h) ⟨Nat.le_of_ble_eq_true rfl, ?_⟩
      show wz (37) mt_X12_isIn.2.2.2.2.1 _ mt_X12_isIn.2.2.2.2.1 [some (.inl z3), some (.inl 0), some (.inl 11)] [] _ _ _ _
      refine w_iln rfl ?_
      refine w_iln rfl ?_
      refine w_cmlt (fun c4 => ?_) (fun c4 => ?_)
      · skip
        refine w_ic ?_
        refine w_iret (fun _ => Or.inl rfl) ?_
        refine w_iret (fun _ => Or.inl rfl) ?_
        refine w_ifeq (fun c5 => ?_) (fun c5 => ?_)
        · skip
          refine w_ic ?_
          exact w_iret (fun q => by cases q) h0
        · exfalso; omega
      · skip
        refine w_iln rfl ?_
        refine w_iln rfl ?_
        refine w_cmgt (fun c6 => ?_) (fun c6 => ?_)
        · skip
          refine w_ic ?_
          refine w_iret (fun _ => Or.inl rfl) ?_
          refine w_iret (fun _ => Or.inl rfl) ?_
          refine w_ifeq (fun c7 => ?_) (fun c7 => ?_)
          · skip
            refine w_ic ?_
            exact w_iret (fun q => by cases q) h0
          · exfalso; omega
        · skip
          refine w_ic ?_
          refine w_goto ?_
          refine w_iret (fun _ => Or.inr rfl) ?_
          refine w_iret (fun _ => Or.inr rfl) ?_
          refine w_ifeq (fun c8 => ?_) (fun c8 => ?_)
          · exfalso; omega
          · skip
            refine w_iln rfl ?_
            refine w_ifle (fun c9 => ?_) (fun c9 => ?_)
            · skip
              refine w_ii rfl ⟨by show (-2147483648 : Int) ≤ i + 1; omega, by show i + 1 < (2147483648 : Int); omega⟩ ?_
              show wz _ _ _ _ [some (.inr (.inr (some m))), some (.inl n1), some (.inl n2), some (.inl (i + 1)), none, none, none] _ _ _ _ _
              refine w_goto ?_
              exact ih (i + 1) _ _ (by omega) (by omega)
            · skip
              refine w_aln rfl ?_
              refine w_iln rfl ?_
              refine w_iln rfl ?_
              have hq10 : 0 ≤ n1 * i ∧ n1 * i ≤ 204 := lk_mul (by omega) (by omega) (by omega) (by omega)
              have hq10b := lk_mul2 (a := n1) (b := i) (by omega)
              refine w_mul ⟨by show (-2147483648 : Int) ≤ n1 * i; omega, by show n1 * i < (2147483648 : Int); omega⟩ ?_
              refine w_cv (st := []) rfl gm rfl (Nat.le_of_ble_eq_true rfl) (fun kk h => h) ⟨Nat.le_of_ble_eq_true rfl, ?_⟩
              show wz (38) mt_X12_octet.2.2.2.2.1 _ mt_X12_octet.2.2.2.2.1 [some (.inr (.inr (some m))), some (.inl (n1 * i))] [] _ _ _ _
              refine w_aln rfl ?_
              refine w_gr gm rfl (by decide) rfl (m1) ?_
              refine w_iln rfl ?_
              refine w_bald (v := (M.1 bt (n1 * i).toNat)) gbt rfl (by show (0 : Int) ≤ n1 * i; omega) (by show n1 * i < ((940 : Nat) : Int); omega) (rfl) ?_
              refine w_sp ?_
              refine w_and ?_
              intro z11 hz11 ez11
              refine w_iret (fun q => by cases q) ?_
              refine w_aln rfl ?_
              refine w_iln rfl ?_
              refine w_iln rfl ?_
              have hq12 : 0 ≤ n1 * i ∧ n1 * i ≤ 204 := lk_mul (by omega) (by omega) (by omega) (by omega)
              have hq12b := lk_mul2 (a := n1) (b := i) (by omega)
              refine w_mul ⟨by show (-2147483648 : Int) ≤ n1 * i; omega, by show n1 * i < (2147483648 : Int); omega⟩ ?_
              refine w_iln rfl ?_
              refine w_sub ⟨by show (-2147483648 : Int) ≤ (n1 * i) - n1; omega, by show (n1 * i) - n1 < (2147483648 : Int); omega⟩ ?_
              refine w_cv (st := [.inl z11]) rfl gm rfl (Nat.le_of_ble_eq_true rfl) (fun kk h => h) ⟨Nat.le_of_ble_eq_true rfl, ?_⟩
              show wz (38) mt_X12_octet.2.2.2.2.1 _ mt_X12_octet.2.2.2.2.1 [some (.inr (.inr (some m))), some (.inl ((n1 * i) - n1))] [] _ _ _ _
              refine w_aln rfl ?_
              refine w_gr gm rfl (by decide) rfl (m1) ?_
              refine w_iln rfl ?_
              refine w_bald (v := (M.1 bt ((n1 * i) - n1).toNat)) gbt rfl (by show (0 : Int) ≤ (n1 * i) - n1; omega) (by show (n1 * i) - n1 < ((940 : Nat) : Int); omega) (rfl) ?_
              refine w_sp ?_
              refine w_and ?_
              intro z13 hz13 ez13
              refine w_iret (fun q => by cases q) ?_
              refine w_cmgt (fun c14 => ?_) (fun c14 => ?_)
              · skip
                refine w_ii rfl ⟨by show (-2147483648 : Int) ≤ i + 1; omega, by show i + 1 < (2147483648 : Int); omega⟩ ?_
                show wz _ _ _ _ [some (.inr (.inr (some m))), some (.inl n1), some (.inl n2), some (.inl (i + 1)), none, none, none] _ _ _ _ _
                refine w_goto ?_
                exact ih (i + 1) _ _ (by omega) (by omega)
              · skip
                refine w_ic ?_
                exact w_iret (fun q => by cases q) h0
theorem r_lk4 {G : mj_G} {M0 : mj_M} {m s bf rw_ : Nat} {Q : mj_P} {n1 n2 : Int} {H0 : Int} (gm : G m = (1012, 0)) (gs : G s = (51100, 537)) (gf : G bf = (64100, 135)) (gr : G rw_ = (66100, 120)) (e0 : M0.1 s 0 = H0) (b0 : 0 ≤ H0 ∧ H0 ≤ 8) (n20 : 0 ≤ n2 ∧ n2 ≤ 400) {t k : Int} (t0 : 0 ≤ t) (t1 : t < H0) (k0 : 0 ≤ k) (k1 : k ≤ 11) : ∀ (f : Nat) (j c : Int) (M : mj_M) (cb sb : Nat), j + f = 10 → 1 ≤ j → 0 ≤ c → c + 9 ≤ 900 + j → lk_B G m s bf rw_ M0 M → (∀ c' M' j' cb sb, c ≤ c' → c' + j ≤ c + 10 → lk_B G m s bf rw_ M0 M' → wz 39 mt_X12_leaks.2.2.2.2.1 Q (mt_X12_leaks.2.2.2.2.1.drop 152) [some (.inr (.inr (some m))), some (.inl n1), some (.inl n2), some (.inl c'), some (.inl t), some (.inl k), j'] [] G M' cb sb) → wz 39 mt_X12_leaks.2.2.2.2.1 Q (mt_X12_leaks.2.2.2.2.1.drop 93) [some (.inr (.inr (some m))), some (.inl n1), some (.inl n2), some (.inl c), some (.inl t), some (.inl k), some (.inl j)] [] G M cb sb := by
  intro f
  induction f with
  | zero =>
    intro j c M cb sb e j0 c0 c1 hB h
    refine w_il rfl ?_
    refine w_bp ?_
    refine w_cmge (fun q => ?_) (fun q => by exfalso; omega)
    exact h c M _ _ _ (Int.le_refl c) (by omega) hB
  | succ f ih =>
    intro j c M cb sb e j0 c0 c1 hB h
    refine w_il rfl ?_
    refine w_bp ?_
    refine w_cmge (fun q => by exfalso; omega) (fun q => ?_)
    have h1 := hB.pm (k := 32) (v := t) gm gs gf ⟨by show (-2147483648 : Int) ≤ t; omega, by show t ≤ (2147483647 : Int); omega⟩
    have h2 := h1.pm (k := 33) (v := k) gm gs gf ⟨by show (-2147483648 : Int) ≤ k; omega, by show k ≤ (2147483647 : Int); omega⟩
    have h3 := h2.pm (k := 34) (v := j) gm gs gf ⟨by show (-2147483648 : Int) ≤ j; omega, by show j ≤ (2147483647 : Int); omega⟩
    refine w_aln rfl ?_
    refine w_il rfl ?_
    refine w_pi gm rfl (by decide) rfl (fun q => by cases q) ?_
    refine w_aln rfl ?_
    refine w_il rfl ?_
    refine w_pi gm rfl (by decide) rfl (fun q => by cases q) ?_
    refine w_aln rfl ?_
    refine w_il rfl ?_
    refine w_pi gm rfl (by decide) rfl (fun q => by cases q) ?_
    refine w_aln rfl ?_
    refine w_iln rfl ?_
    refine w_cv (st := []) rfl gm rfl (Nat.le_of_ble_eq_true rfl) (fun kk h => h) (r_areLevels (dd := 38) (by decide +kernel) h3.1 gm n20 (fun z1 M1 I1 f1 => ?_))
    have h4 := h3.fr gm gs gf I1 f1 (by decide +kernel)
    have next : ∀ (c' : Int) (M' : mj_M) (cb sb : Nat), c ≤ c' → c' ≤ c + 1 → lk_B G m s bf rw_ M0 M' → wz 39 mt_X12_leaks.2.2.2.2.1 Q (mt_X12_leaks.2.2.2.2.1.drop 150) [some (.inr (.inr (some m))), some (.inl n1), some (.inl n2), some (.inl c'), some (.inl t), some (.inl k), some (.inl j)] [] G M' cb sb := fun c' M' cb sb q1 q2 hB' => by
      refine w_ii rfl ⟨by omega, by omega⟩ ?_
      refine w_goto ?_
      exact ih (j + 1) c' M' _ _ (by omega) (by omega) (by omega) (by omega) hB' (fun c2 M2 j2 cb sb g1 g2 g3 => h c2 M2 j2 cb sb (by omega) (by omega) g3)
    refine w_ifne (fun q1 => ?_) (fun q1 => ?_)
    · refine w_ii rfl ⟨by omega, by omega⟩ ?_
      have r49 : 0 ≤ M1.1 m 49 ∧ M1.1 m 49 ≤ 40 := by have q := h4.1.1 m 49; rw [gm] at q; exact q
      refine w_aln rfl ?_
      refine w_gi (v := M1.1 m 49) gm rfl (by decide) rfl rfl ?_
      refine w_bp ?_
      refine w_cmne (fun q2 => ?_) (fun q2 => ?_)
      · generalize ev : M1.1 m 49 = v49 at r49 q2
        refine w_aln rfl ?_
        refine w_gr gm rfl (by decide) rfl h4.2.2.2.1 ?_
        refine w_ic ?_
        refine w_aln rfl ?_
        refine w_gi gm rfl (by decide) rfl ev ?_
        refine w_mul ⟨by omega, by omega⟩ ?_
        refine w_il rfl ?_
        refine w_iast gr rfl (by decide) (by omega) (by show 3 * v49 < ((120 : Nat) : Int); omega) ?_
        have h5 := h4.pr (k := (3 * v49).toNat) (v := t) gr gs gf ⟨by show (-2147483648 : Int) ≤ t; omega, by show t ≤ (2147483647 : Int); omega⟩
        have nrm : m ≠ rw_ := hn_ne gm gr (by decide)
        refine w_aln rfl ?_
        refine w_gr gm rfl (by decide) rfl h5.2.2.2.1 ?_
        refine w_ic ?_
        refine w_aln rfl ?_
        refine w_gi gm rfl (by decide) rfl ((congrFun (wz_c nrm) 49).trans ev) ?_
        refine w_mul ⟨by omega, by omega⟩ ?_
        refine w_ic ?_
        refine w_add ⟨by omega, by omega⟩ ?_
        refine w_il rfl ?_
        refine w_iast gr rfl (by decide) (by omega) (by show 3 * v49 + 1 < ((120 : Nat) : Int); omega) ?_
        have h6 := h5.pr (k := (3 * v49 + 1).toNat) (v := k) gr gs gf ⟨by show (-2147483648 : Int) ≤ k; omega, by show k ≤ (2147483647 : Int); omega⟩
        refine w_aln rfl ?_
        refine w_gr gm rfl (by decide) rfl h6.2.2.2.1 ?_
        refine w_ic ?_
        refine w_aln rfl ?_
        refine w_gi gm rfl (by decide) rfl ((congrFun (wz_c nrm) 49).trans ((congrFun (wz_c nrm) 49).trans ev)) ?_
        refine w_mul ⟨by omega, by omega⟩ ?_
        refine w_ic ?_
        refine w_add ⟨by omega, by omega⟩ ?_
        refine w_il rfl ?_
        refine w_iast gr rfl (by decide) (by omega) (by show 3 * v49 + 2 < ((120 : Nat) : Int); omega) ?_
        have h7 := h6.pr (k := (3 * v49 + 2).toNat) (v := j) gr gs gf ⟨by show (-2147483648 : Int) ≤ j; omega, by show j ≤ (2147483647 : Int); omega⟩
        refine w_aln rfl ?_
        refine w_dupr ?_
        refine w_gi gm rfl (by decide) rfl ((congrFun (wz_c nrm) 49).trans ((congrFun (wz_c nrm) 49).trans ((congrFun (wz_c nrm) 49).trans ev))) ?_
        refine w_ic ?_
        refine w_add ⟨by omega, by omega⟩ ?_
        refine w_pi gm rfl (by decide) rfl (fun q => by cases q) ?_
        exact next (c + 1) _ _ _ (by omega) (by omega) (h7.pm (k := 49) (v := v49 + 1) gm gs gf ⟨by show (0 : Int) ≤ v49 + 1; omega, by show v49 + 1 ≤ (40 : Int); omega⟩)
      · refine w_goto ?_
        exact next (c + 1) M1 _ _ (by omega) (by omega) h4
    · refine w_goto ?_
      exact next c M1 _ _ (by omega) (by omega) h4
theorem r_lk3 {G : mj_G} {M0 : mj_M} {m s bf rw_ : Nat} {Q : mj_P} {n1 n2 : Int} {H0 : Int} (gm : G m = (1012, 0)) (gs : G s = (51100, 537)) (gf : G bf = (64100, 135)) (gr : G rw_ = (66100, 120)) (e0 : M0.1 s 0 = H0) (b0 : 0 ≤ H0 ∧ H0 ≤ 8) (n20 : 0 ≤ n2 ∧ n2 ≤ 400) {t : Int} (t0 : 0 ≤ t) (t1 : t < H0) : ∀ (f : Nat) (k c : Int) (M : mj_M) (v6 : Option mj_V) (cb sb : Nat), k + f = 12 → 0 ≤ k → 0 ≤ c → c ≤ 108 * t + 9 * k → lk_B G m s bf rw_ M0 M → (∀ c' M' v5 v6 cb sb, 0 ≤ c' → c' ≤ 108 * t + 108 → lk_B G m s bf rw_ M0 M' → wz 39 mt_X12_leaks.2.2.2.2.1 Q (mt_X12_leaks.2.2.2.2.1.drop 154) [some (.inr (.inr (some m))), some (.inl n1), some (.inl n2), some (.inl c'), some (.inl t), v5, v6] [] G M' cb sb) → wz 39 mt_X12_leaks.2.2.2.2.1 Q (mt_X12_leaks.2.2.2.2.1.drop 88) [some (.inr (.inr (some m))), some (.inl n1), some (.inl n2), some (.inl c), some (.inl t), some (.inl k), v6] [] G M cb sb := by
  intro f
  induction f with
  | zero =>
    intro k c M v6 cb sb e k0 c0 c1 hB h
    refine w_il rfl ?_
    refine w_bp ?_
    refine w_cmge (fun q => ?_) (fun q => by exfalso; omega)
    exact h c M _ _ _ _ c0 (by omega) hB
  | succ f ih =>
    intro k c M v6 cb sb e k0 c0 c1 hB h
    refine w_il rfl ?_
    refine w_bp ?_
    refine w_cmge (fun q => by exfalso; omega) (fun q => ?_)
    refine w_ic ?_
    refine w_is ?_
    refine r_lk4 gm gs gf gr e0 b0 n20 t0 t1 k0 (by omega) 9 1 c M _ _ (by decide) (by decide) c0 (by omega) hB (fun c' M' j' cb sb g1 g2 hB' => ?_)
    refine w_ii rfl ⟨by omega, by omega⟩ ?_
    refine w_goto ?_
    exact ih (k + 1) c' M' _ _ _ (by omega) (by omega) (by omega) (by omega) hB' h
theorem r_lk2 {G : mj_G} {M0 : mj_M} {m s bf rw_ : Nat} {Q : mj_P} {n1 n2 : Int} {H0 : Int} (gm : G m = (1012, 0)) (gs : G s = (51100, 537)) (gf : G bf = (64100, 135)) (gr : G rw_ = (66100, 120)) (e0 : M0.1 s 0 = H0) (b0 : 0 ≤ H0 ∧ H0 ≤ 8) (n20 : 0 ≤ n2 ∧ n2 ≤ 400) (m6 : M0.2.2 m 6 = some s) : ∀ (f : Nat) (t c : Int) (M : mj_M) (v5 v6 : Option mj_V) (cb sb : Nat), t + f = H0 → 0 ≤ t → 0 ≤ c → c ≤ 108 * t → lk_B G m s bf rw_ M0 M → (∀ c' M' v4 v5 v6 cb sb, lk_B G m s bf rw_ M0 M' → wz 39 mt_X12_leaks.2.2.2.2.1 Q (mt_X12_leaks.2.2.2.2.1.drop 156) [some (.inr (.inr (some m))), some (.inl n1), some (.inl n2), some (.inl c'), v4, v5, v6] [] G M' cb sb) → wz 39 mt_X12_leaks.2.2.2.2.1 Q (mt_X12_leaks.2.2.2.2.1.drop 80) [some (.inr (.inr (some m))), some (.inl n1), some (.inl n2), some (.inl c), some (.inl t), v5, v6] [] G M cb sb := by
  intro f
  induction f with
  | zero =>
    intro t c M v5 v6 cb sb e t0 c0 c1 hB h
    refine w_il rfl ?_
    refine w_aln rfl ?_
    refine w_gr gm rfl (by decide) rfl hB.2.1 ?_
    refine w_ic ?_
    refine w_iald (v := H0) gs rfl (by decide) (by decide) ((hB.2.2.2.2.2 0 (Or.inl (by decide))).trans e0) ?_
    refine w_cmge (fun q => ?_) (fun q => by exfalso; omega)
    exact h c M _ _ _ _ _ hB
  | succ f ih =>
    intro t c M v5 v6 cb sb e t0 c0 c1 hB h
    refine w_il rfl ?_
    refine w_aln rfl ?_
    refine w_gr gm rfl (by decide) rfl hB.2.1 ?_
    refine w_ic ?_
    refine w_iald (v := H0) gs rfl (by decide) (by decide) ((hB.2.2.2.2.2 0 (Or.inl (by decide))).trans e0) ?_
    refine w_cmge (fun q => by exfalso; omega) (fun q => ?_)
    refine w_ic ?_
    refine w_is ?_
    refine r_lk3 gm gs gf gr e0 b0 n20 t0 (by omega) 12 0 c M v6 _ _ (by decide) (by decide) c0 (by omega) hB (fun c' M' v5 v6 cb sb g1 g2 hB' => ?_)
    refine w_ii rfl ⟨by omega, by omega⟩ ?_
    refine w_goto ?_
    exact ih (t + 1) c' M' _ _ _ _ (by omega) (by omega) g1 (by omega) hB' h
set_option maxRecDepth 100000 in
theorem r_X12_leaksY {G : mj_G} {M : mj_M} {m s : Nat} {Q : mj_P} (hI : ab_Inv G M) (gm : G m = (1012, 0)) (gs : G s = (51100, 537)) (m6 : M.2.2 m 6 = some s) (b0 : 0 ≤ M.1 s 0 ∧ M.1 s 0 ≤ 8) (h32 : M.1 m 32 = -1) (h : ∀ z M', (∀ j, j < 537 → M'.1 s j = M.1 s j) → M'.1 m 32 = -1 → Q (some (.inl z)) G M') : mj_R mj_tab 40 210 [.inr (.inr (some m))] G M Q := by
  obtain ⟨bt, m1, gbt⟩ := hn_rf (k := 1) (q := (50101, 940)) hI gm rfl (by decide) (by decide) (by decide) (fun e => absurd e (by decide))
  obtain ⟨bf, m45, gf⟩ := hn_rf (k := 45) (q := (64100, 135)) hI gm rfl (by decide) (by decide) (by decide) (fun e => absurd e (by decide))
  obtain ⟨rw_, m48, gr⟩ := hn_rf (k := 48) (q := (66100, 120)) hI gm rfl (by decide) (by decide) (by decide) (fun e => absurd e (by decide))
  have sm : s ≠ m := hn_ne gs gm (by decide)
  have nbs : bf ≠ s := hn_ne gf gs (by decide)
  have nbm : bf ≠ m := hn_ne gf gm (by decide)
  have r2 : 0 ≤ M.1 m 2 ∧ M.1 m 2 ≤ 940 := by have q := hI.1 m 2; rw [gm] at q; exact q
  refine ⟨Nat.le_of_ble_eq_true rfl, ?_⟩
  show wz 39 mt_X12_leaks.2.2.2.2.1 Q mt_X12_leaks.2.2.2.2.1 [some (.inr (.inr (some m))), none, none, none, none, none, none] [] G M _ _
  refine w_aln rfl ?_
  refine w_ic ?_
  refine w_pi gm rfl (by decide) rfl (fun q => by cases q) ?_
  refine w_aln rfl ?_
  refine w_sp ?_
  refine w_cv (st := []) rfl gm rfl (Nat.le_of_ble_eq_true rfl) (fun kk h => h) ⟨Nat.le_of_ble_eq_true rfl, ?_⟩
  show wz 38 mt_X12_taken.2.2.2.2.1 _ mt_X12_taken.2.2.2.2.1 [some (.inr (.inr (some m))), some (.inl 940)] [] _ _ _ _
  refine w_aln rfl ?_
  refine w_aln rfl ?_
  refine w_gi gm rfl (by decide) rfl (v := M.1 m 2) (hn_n (Or.inr (by decide))) ?_
  refine w_pi gm rfl (by decide) rfl (fun q => by cases q) ?_
  refine w_aln rfl ?_
  refine w_ic ?_
  refine w_pi gm rfl (by decide) rfl (fun q => by cases q) ?_
  refine w_aln rfl ?_
  refine w_ic ?_
  refine w_pi gm rfl (by decide) rfl (fun q => by cases q) ?_
  refine w_aln rfl ?_
  refine w_iln rfl ?_
  refine w_pi gm rfl (by decide) rfl (fun q => by cases q) ?_
  refine w_ret ?_
  show wz 39 mt_X12_leaks.2.2.2.2.1 Q (mt_X12_leaks.2.2.2.2.1.drop 6) [some (.inr (.inr (some m))), none, none, none, none, none, none] [] G (mj_p0 (mj_p0 (mj_p0 (mj_p0 (mj_p0 M m 0 0) m 3 (M.1 m 2)) m 2 0) m 4 0) m 5 940) _ _
  have hA : lk_A m M (mj_p0 (mj_p0 (mj_p0 (mj_p0 (mj_p0 M m 0 0) m 3 (M.1 m 2)) m 2 0) m 4 0) m 5 940) := ⟨rfl, fun a ha => (wz_c ha).trans ((wz_c ha).trans ((wz_c ha).trans ((wz_c ha).trans (wz_c ha)))), (hn_n (Or.inr (by decide))).trans ((hn_n (Or.inr (by decide))).trans ((hn_n (Or.inr (by decide))).trans ((hn_n (Or.inr (by decide))).trans (hn_n (Or.inr (by decide)))))), (hn_n (Or.inr (by decide))).trans ((hn_n (Or.inr (by decide))).trans ((hn_n (Or.inr (by decide))).trans hn_s))⟩
  have hIA : ab_Inv G (mj_p0 (mj_p0 (mj_p0 (mj_p0 (mj_p0 M m 0 0) m 3 (M.1 m 2)) m 2 0) m 4 0) m 5 940) := ((((hI.p0 (by rw [gm]; exact ⟨by decide, by decide⟩)).p0 (by rw [gm]; exact r2)).p0 (by rw [gm]; exact ⟨by decide, by decide⟩)).p0 (by rw [gm]; exact ⟨by decide, by decide⟩)).p0 (by rw [gm]; exact ⟨by decide, by decide⟩)
  revert hA hIA
  generalize mj_p0 (mj_p0 (mj_p0 (mj_p0 (mj_p0 M m 0 0) m 3 (M.1 m 2)) m 2 0) m 4 0) m 5 940 = MA
  intro hA hIA
  have esA : MA.1 s = M.1 s := hA.2.1 s sm
  have none_ : Q (some (.inl (-1))) G MA := h _ _ (fun j _ => congrFun esA j) (hA.2.2.1.trans h32)
  refine w_ic ?_
  refine w_ic ?_
  refine w_aln rfl ?_
  refine w_gr gm rfl (by decide) rfl ((by rw [hA.1]; exact m6)) ?_
  refine w_ic ?_
  refine w_iald (v := (M.1 s 0)) gs rfl (by show (0 : Int) ≤ 0; omega) (by show 0 < ((537 : Nat) : Int); omega) (congrFun esA _) ?_
  refine w_mul ⟨by show (-2147483648 : Int) ≤ 2 * (M.1 s 0); omega, by show 2 * (M.1 s 0) < (2147483648 : Int); omega⟩ ?_
  refine w_add ⟨by show (-2147483648 : Int) ≤ 1 + (2 * (M.1 s 0)); omega, by show 1 + (2 * (M.1 s 0)) < (2147483648 : Int); omega⟩ ?_
  refine w_isn ?_
  show wz _ _ _ _ [some (.inr (.inr (some m))), some (.inl (1 + (2 * (M.1 s 0)))), none, none, none, none, none] _ _ _ _ _
  refine w_aln rfl ?_
  refine w_gr gm rfl (by decide) rfl ((by rw [hA.1]; exact m6)) ?_
  refine w_ic ?_
  refine w_iald (v := (M.1 s 0)) gs rfl (by show (0 : Int) ≤ 0; omega) (by show 0 < ((537 : Nat) : Int); omega) (congrFun esA _) ?_
  refine w_ifeq (fun c1 => ?_) (fun c1 => ?_)
  · skip
    refine w_ic ?_
    exact w_iret (fun q => by cases q) none_
  · skip
    refine w_aln rfl ?_
    refine w_gi gm rfl (by decide) rfl (hA.2.2.2) ?_
    refine w_iln rfl ?_
    refine w_rem (by omega) ?_
    intro z2 hz2 ez2
    refine w_ifne (fun c3 => ?_) (fun c3 => ?_)
    · skip
      refine w_ic ?_
      exact w_iret (fun q => by cases q) none_
    · skip
      refine w_aln rfl ?_
      refine w_gi gm rfl (by decide) rfl (hA.2.2.2) ?_
      refine w_iln rfl ?_
      refine w_div (by omega) ?_
      intro z4 hz4 ez4
      refine w_ic ?_
      refine w_bp ?_
      refine w_cs (st := []) rfl (Nat.le_of_ble_eq_true rfl) (fun kk h => h) ⟨Nat.le_of_ble_eq_true rfl, ?_⟩
      show wz (38) mt_X12_isIn.2.2.2.2.1 _ mt_X12_isIn.2.2.2.2.1 [some (.inl z4), some (.inl 1), some (.inl 12)] [] _ _ _ _
      refine w_iln rfl ?_
      refine w_iln rfl ?_
      refine w_cmlt (fun c5 => ?_) (fun c5 => ?_)
      · skip
        refine w_ic ?_
        refine w_iret (fun _ => Or.inl rfl) ?_
        refine w_ifne (fun c6 => ?_) (fun c6 => ?_)
        · exfalso; omega
        · skip
          refine w_ic ?_
          exact w_iret (fun q => by cases q) none_
      · skip
        refine w_iln rfl ?_
        refine w_iln rfl ?_
        refine w_cmgt (fun c7 => ?_) (fun c7 => ?_)
        · skip
          refine w_ic ?_
          refine w_iret (fun _ => Or.inl rfl) ?_
          refine w_ifne (fun c8 => ?_) (fun c8 => ?_)
          · exfalso; omega
          · skip
            refine w_ic ?_
            exact w_iret (fun q => by cases q) none_
        · skip
          refine w_ic ?_
          refine w_goto ?_
          refine w_iret (fun _ => Or.inr rfl) ?_
          refine w_ifne (fun c9 => ?_) (fun c9 => ?_)
          · skip
            refine w_aln rfl ?_
            refine w_gi gm rfl (by decide) rfl (hA.2.2.2) ?_
            refine w_iln rfl ?_
            refine w_div (by omega) ?_
            intro z10 hz10 ez10
            refine w_isn ?_
            show wz _ _ _ _ [some (.inr (.inr (some m))), some (.inl (1 + (2 * (M.1 s 0)))), some (.inl z10), none, none, none, none] _ _ _ _ _
            refine w_ic ?_
            refine w_isn ?_
            show wz _ _ _ _ [some (.inr (.inr (some m))), some (.inl (1 + (2 * (M.1 s 0)))), some (.inl z10), some (.inl 0), none, none, none] _ _ _ _ _
            have e9 : z10 = z4 := ez10.trans ez4.symm
            refine r_lk1 (n1 := 1 + (2 * (M.1 s 0))) (n2 := z10) gm gbt (by rw [hA.1]; exact m1) (by omega) (by omega) (by omega) (by omega) none_ (fun cb sb => ?_) (z10).toNat 0 _ _ (by omega) (by decide)
            refine w_aln rfl ?_
            refine w_cv (st := []) rfl gm rfl (Nat.le_of_ble_eq_true rfl) (fun kk h => h) (sn_and (by decide +kernel) (r_thinks (Q := fun r G' M' => r = none ∧ G' = G ∧ ab_Inv G M') (dd := 38) (by decide +kernel) hIA gm (fun M2 I2 f2 => ⟨rfl, rfl, I2⟩)) (r_X12_thinksC (Q := fun r G' M' => M'.2 = MA.2 ∧ (∀ a, a ≠ bf → M'.1 a = MA.1 a) ∧ ∀ k, k < 135 → M'.1 bf k = MA.1 s (221 + k)) (M0 := MA) (d := 37) gm gs gf (by rw [hA.1]; exact m6) (by rw [hA.1]; exact m45) (fun M2 t1 t2 t3 => ⟨t1, t2, t3⟩)) (fun r G' M2 q1 q2 => ?_))
            obtain ⟨rfl, rfl, I2⟩ := q1
            obtain ⟨t1, t2, t3⟩ := q2
            have hB : lk_B G' m s bf rw_ M M2 := ⟨I2, by rw [t1, hA.1]; exact m6, by rw [t1, hA.1]; exact m45, by rw [t1, hA.1]; exact m48, fun k hk => (t3 k hk).trans (congrFun esA _), fun j _ => (congrFun (t2 s nbs.symm) j).trans (congrFun esA j)⟩
            refine w_ic ?_
            refine w_isn ?_
            refine w_aln rfl ?_
            refine w_ic ?_
            refine w_pi gm rfl (by decide) rfl (fun q => by cases q) ?_
            refine w_ic ?_
            refine w_is ?_
            refine r_lk2 (H0 := M.1 s 0) gm gs gf gr rfl b0 ⟨by omega, by omega⟩ m6 (M.1 s 0).toNat 0 0 _ _ _ _ _ (by omega) (by decide) (by decide) (by decide) (hB.pm (k := 49) (v := 0) gm gs gf ⟨by decide, by decide⟩) (fun c' M3 v4 v5 v6 cb sb h3 => ?_)
            refine w_aln rfl ?_
            refine w_ic ?_
            refine w_pi gm rfl (by decide) rfl (fun q => by cases q) ?_
            have h4 := h3.pm (k := 32) (v := -1) gm gs gf ⟨by decide, by decide⟩
            refine w_aln rfl ?_
            refine w_cv (st := []) rfl gm rfl (Nat.le_of_ble_eq_true rfl) (fun kk h => h) (r_X12_forgetsC (M0 := mj_p0 M3 m 32 (-1)) (d := 37) gm gs gf h4.2.1 h4.2.2.1 (fun M4 f1 f2 f3 => ?_))
            refine w_iln rfl ?_
            refine w_iret (fun q => by cases q) (h c' M4 (fun j hj => ?_) ((congrFun (f2 m sm.symm) 32).trans hn_s))
            by_cases c : 221 ≤ j ∧ j < 356
            · rw [(f3 j hj).1 c, h4.2.2.2.2.1 (j - 221) (by omega), show 221 + (j - 221) = j by omega]
            · rw [(f3 j hj).2 (by omega)]; exact h4.2.2.2.2.2 j (by omega)
          · exfalso; omega
end
section
/-! ===== YEARS in the whole invariant ===== -/
def lp_U (G : mj_G) (M : mj_M) (x m tp s kp bc bt kc kr : Nat) (w : Nat → Nat) (c : Int) : Prop := lp_Z G M x m tp s kp bc bt kc kr w c ∧ lq_W G M m s kp kc w
/-- whether on goes on -/
def lr_c (H : Nat → Int) (n : Int) : Prop := H 221 = 1 ∧ 0 ≤ n ∧ n ≤ 12
def lr_oT (H : Nat → Int) (n : Int) : ye_T := ye_it H (fun _ => 0) (ye_S H 0) (lr_on H n).toNat
section YT2
variable {G : mj_G} {M M' : mj_M} {x m tp s kp bc bt kc kr ud : Nat} {w : Nat → Nat} {c c' z z1 z2 z3 n : Int} {P : Nat → Int} {W : List (Nat × Nat × Nat)}
theorem lp_U.le (h : lp_U G M x m tp s kp bc bt kc kr w c) (hc : c ≤ c') : lp_U G M x m tp s kp bc bt kc kr w c' := ⟨h.1.le hc, h.2⟩
theorem lp_U.mv (h : lp_U G M x m tp s kp bc bt kc kr w c) (e1 : M'.1 = M.1) (e2 : M'.2.2 = M.2.2) (e3 : ∀ y k, (G y).1 ≠ 90103 → M'.2.1 y k = M.2.1 y k) : lp_U G M' x m tp s kp bc bt kc kr w c := ⟨h.1.mv e1 e2 e3, h.2.mv e1 e2⟩
theorem lq_W.p0m {k : Nat} {v : Int} (h : lq_W G M m s kp kc w) (gm : G m = (1012, 0)) (gs : G s = (51100, 537)) (gk : G kp = (70100, 1076)) (gc : G kc = (48102, 2)) (hk : k ≠ 32) : lq_W G (mj_p0 M m k v) m s kp kc w := h.cg (h.2.1.cg (fun _ _ _ _ _ => rfl) (fun _ _ _ _ => rfl) (fun _ _ => rfl)) (hn_n (Or.inr (fun e => hk e.symm))) (fun Y hY u hu => wz_c (fun e => yw_nt h.1 hY gm (by decide) u hu e.symm)) (fun j _ => congrFun (wz_c (hn_ne gs gm (by decide))) j) (wz_c (hn_ne gk gm (by decide))) (wz_c (hn_ne gc gm (by decide)))
theorem lq_W.ctY {y : rv_Od} (h : lq_W G M m s kp kc w) (hA : lq_A G w) (f : ab_frm W G M M') (cW : lq_Wu W) (e32 : M'.1 m 32 = M.1 m 32) (ek : M'.1 kp = M.1 kp) (ec : M'.1 kc = M.1 kc) (b0 : 0 ≤ M.1 s 0) (hdb : ∀ R r, y = .inr (R, r) → rv_db (M.1 s 0) R) (o1 : ∀ e, y = .inl e → M'.1 s = M.1 s) (o2 : ∀ R r, y = .inr (R, r) → rq_O s R r M M') : lq_W G M' m s kp kc w := by
  rcases y with e | ⟨R, r⟩
  · exact h.tr hA f cW e32 (fun j _ => by rw [o1 e rfl]) ek ec
  · exact h.dl hA f cW e32 (fun j hj => (o2 R r rfl).2.2 j (by omega)) ek ec (yd_ok.ct (hdb R r rfl) b0 (o2 R r rfl))
theorem lq_W.tkY (h : lq_W G M m s kp kc w) (hA : lq_A G w) (gs : G s = (51100, 537)) (f : ab_frm W G M M') (cW : lq_Wu W) (cS : ∀ q ∈ W, q.1 ≠ 51100 ∨ (88 ≤ q.2.1 ∧ q.2.2 < 221) ∨ 356 ≤ q.2.1) (e32 : M'.1 m 32 = M.1 m 32) (ek : M'.1 kp = M.1 kp) (ec : M'.1 kc = M.1 kc) (h6 : rv_r6 (M.1 s) 0) (hP : z ≠ 0 → ∀ j, j < 12 → P j = 8 ∨ (0 ≤ P j ∧ P j < M.1 s 0)) (o1 : z = 0 → M'.1 s = M.1 s) (o2 : z ≠ 0 → rq_T s P M M') : lq_W G M' m s kp kc w := by
  by_cases hz : z = 0
  · exact h.tr hA f cW e32 (fun j _ => by rw [o1 hz]) ek ec
  · have es : ∀ j, j < 88 ∨ (221 ≤ j ∧ j < 356) → M'.1 s j = M.1 s j := fun j hj => (f s j (by rw [gs]; rintro ⟨r, hr, e1, e2, e3⟩; have := cS r hr; omega)).1
    exact h.dl hA f cW e32 es ek ec (yd_ok.tk h6 (hP hz) (es 0 (Or.inl (by decide))) (o2 hz))
theorem lq_imgY (hI : ab_Inv G M) (gx : G x = (1011, 0)) (hA : lq_A G w) (hB : lq_B M w x) (gA : lq_WA G w) (wB : lq_WB M w) (x4 : M.2.2 x 4 = some kc) (gkc : G kc = (48102, 2)) : mj_R mj_tab 40 127 [.inr (.inr (some x)), .inl z1] G M (fun _ _ M' => lq_yiy G M M' kc w z1) :=
  r_X11_imageY hI gx hA hB gA wB x4 gkc (fun hz => ⟨fun _ => rfl, fun k hk e => absurd ⟨by omega, by omega⟩ hz⟩) (fun k hk e M1 M2 al hc => ⟨fun hz => absurd ⟨by omega, by omega⟩ hz, fun k' hk' e' => by
    obtain rfl : k' = k := by omega
    exact ⟨M1, M2, al, hc, rfl⟩⟩)
theorem lq_rstY (hI : ab_Inv G M) (gx : G x = (1011, 0)) (hA : lq_A G w) (hB : lq_B M w x) (gA : lq_WA G w) (wB : lq_WB M w) (x4 : M.2.2 x 4 = some kc) (gkc : G kc = (48102, 2)) (x5 : M.2.2 x 5 = some ud) (gud : G ud = (1009, 0)) : mj_R mj_tab 40 144 [.inr (.inr (some x)), .inl z1] G M (fun _ _ M' => lq_yry G M M' kc ud w z1) :=
  r_X11_restoreY hI gx hA hB gA wB x4 gkc x5 gud (fun hz => ⟨fun _ => rfl, fun k hk e h0 => by
    rcases hz with hz | ⟨k2, a, b, e0⟩
    · exact absurd ⟨by omega, by omega⟩ hz
    · obtain rfl : k2 = k := by omega
      exact absurd e0 h0⟩) (fun k hk e h0 M1 M2 al hc => ⟨fun hz => absurd (hz k hk e) h0, fun k' hk' e' _ => by
    obtain rfl : k' = k := by omega
    exact ⟨M1, M2, al, hc, rfl⟩⟩)
theorem ye_oS (h : ye_okT (fun j => M.1 s (0 + j)) (ye_S (M.1 s) 0)) : ye_okT (M.1 s) (ye_S (M.1 s) 0) := by
  have e : (fun j => M.1 s (0 + j)) = M.1 s := funext fun j => by rw [Nat.zero_add]
  rw [e] at h; exact h
theorem lq_W.rn (h : lq_W G M m s kp kc w) : (M.1 s 221 = 0 ∨ M.1 s 221 = 1) ∧ (M.1 s 221 = 1 → ye_okT (M.1 s) (ye_S (M.1 s) 0)) := ⟨h.2.2.2.1.1.2.1, fun c => ye_oS (h.2.2.2.1.1.2.2 c).2⟩
theorem lr_on_b (hH : ye_H (M.1 s)) (hk : ye_okT (M.1 s) (ye_S (M.1 s) 0)) (hc : lr_c (M.1 s) n) : ye_okT (M.1 s) (lr_oT (M.1 s) n) := by
  have e : lr_on (M.1 s) n = (if n < 12 - M.1 s 222 then n else 12 - M.1 s 222) := if_pos hc
  have e2 : (ye_S (M.1 s) 0).1 222 = M.1 s 222 := by show M.1 s (0 + 222) = _; rw [Nat.zero_add]
  have b := hk.1
  have h0 := hc.2.1
  rw [e2] at b
  have hd : 0 ≤ lr_on (M.1 s) n ∧ lr_on (M.1 s) n ≤ 12 - M.1 s 222 := by rw [e]; split <;> omega
  exact (ye_it_ok hH hk (xs := fun _ => 0) (fun _ => ⟨Int.le_refl 0, by decide⟩) (lr_on (M.1 s) n).toNat (by rw [e2]; omega)).1
theorem lq_begY (hZ : lp_Z G M x m tp s kp bc bt kc kr w c) (hW : lq_W G M m s kp kc w) : mj_R mj_tab 40 110 [.inr (.inr (some x))] G M (fun _ _ M' => (M.1 s 0 = 0 → lq_W G M' m s kp kc w) ∧ (M.1 s 0 ≠ 0 → lq_Wo G M' m s kp kc w (ye_fr (M.1 s)))) := by
  have hI := hZ.1.1.1
  obtain ⟨hA, hB, p, q, hN, hG, -⟩ := hI.J
  obtain ⟨dA, dB, ⟨dn, ds, hDN, hE⟩, -⟩ := hZ.2
  exact r_X11_beginY hI.gx hA hB hN hG hW.1 hW.2.1 dA dB hDN hE (fun h0 => ⟨fun _ => hW, fun n => absurd h0 n⟩) (fun h0 M1 ho hC => ⟨fun e => absurd e h0, fun _ => hW.on1 hA hI.gm hI.gs hI.gk hI.gc ho hC (ye_fr_ok (ye_H.ofs hI.T.1 hW.2.2.2.1.2.zy)).1⟩)
theorem lq_onY (hZ : lp_Z G M x m tp s kp bc bt kc kr w c) (hW : lq_W G M m s kp kc w) : mj_R mj_tab 40 137 [.inr (.inr (some x)), .inl n] G M (fun r _ M' => r = some (.inl (lr_on (M.1 s) n)) ∧ (¬ lr_c (M.1 s) n → lq_W G M' m s kp kc w) ∧ (lr_c (M.1 s) n → lq_Wo G M' m s kp kc w (lr_oT (M.1 s) n))) := by
  have hI := hZ.1.1.1
  obtain ⟨hA, hB, p, q, hN, hG, -⟩ := hI.J
  obtain ⟨dA, dB, ⟨dn, ds, hDN, hE⟩, -⟩ := hZ.2
  have hH := (ye_H.ofs hI.T.1 hW.2.2.2.1.2.zy).1
  obtain ⟨hr, hk⟩ := hW.rn
  have h1 : M.1 (w 61) 0 = M.1 s 221 := hW.2.2.2.1.1.1
  refine r_X11_onY hI.gx hA hB hN hG hW.1 hW.2.1 dA dB hDN hE hH h1 hr (fun c => ⟨⟨h1.trans c, (hW.2.2.2.1.1.2.2 c).1⟩, hk c⟩) (fun hc => ?_) (fun hc M1 ho hC => ?_)
  · refine ⟨?_, fun _ => hW, fun q => absurd q hc⟩
    rw [show lr_on (M.1 s) n = -1 from if_neg hc]
  · exact ⟨rfl, fun q => absurd hc q, fun _ => hW.on1 hA hI.gm hI.gs hI.gk hI.gc ho hC (lr_on_b hH (hk hc.1) hc)⟩
theorem lq_begR (gm : G m = (1012, 0)) (gs : G s = (51100, 537)) (m6 : M.2.2 m 6 = some s) (h32 : M.1 m 32 = -1) (hH : ye_H2 (M.1 s)) : mj_R mj_tab 40 162 [.inr (.inr (some m))] G M (fun _ _ M' => (M.1 s 0 = 0 → M' = mj_p0 M m 0 0) ∧ (M.1 s 0 ≠ 0 → yw_R s m 1 (ye_fr (M.1 s)) M M')) :=
  r_X12_beginY ⟨gm, gs, m6, fun _ _ => rfl, h32⟩ hH (fun h0 => ⟨fun _ => rfl, fun n => absurd h0 n⟩) (fun h0 M1 hR => ⟨fun e => absurd e h0, fun _ => hR⟩)
theorem lq_onR (gm : G m = (1012, 0)) (gs : G s = (51100, 537)) (m6 : M.2.2 m 6 = some s) (h32 : M.1 m 32 = -1) (hH : ye_H2 (M.1 s)) (hr : M.1 s 221 = 0 ∨ M.1 s 221 = 1) (hk : M.1 s 221 = 1 → ye_okT (M.1 s) (ye_S (M.1 s) 0)) : mj_R mj_tab 40 221 [.inr (.inr (some m)), .inl n] G M (fun r _ M' => r = some (.inl (lr_on (M.1 s) n)) ∧ (¬ lr_c (M.1 s) n → M' = mj_p0 M m 0 0) ∧ (lr_c (M.1 s) n → yw_R s m 1 (lr_oT (M.1 s) n) M M')) := by
  refine r_X12_onY ⟨gm, gs, m6, fun _ _ => rfl, h32⟩ hH hr hk (fun hc => ?_) (fun hc M1 hR => ⟨rfl, fun q => absurd hc q, fun _ => hR⟩)
  refine ⟨?_, fun _ => rfl, fun q => absurd q hc⟩
  rw [show lr_on (M.1 s) n = -1 from if_neg hc]
theorem lq_worR (hV : lw_V G M x m tp s kp) (hW : lq_W G M m s kp kc w) (h6 : rv_r6 (M.1 s) 0) : mj_R mj_tab 40 259 [.inr (.inr (some m)), .inl z1] G M (fun r _ M' => r = some (.inl (lr_worth (M.1 s) z1)) ∧ (∀ j, j < 537 → M'.1 s j = M.1 s j) ∧ M'.1 m 32 = M.1 m 32) := by
  obtain ⟨inv, ⟨gx, gm, gtp, gs, -⟩, ⟨x0, m6, -⟩, -⟩ := hV
  obtain ⟨bf, m45, gf⟩ := hn_rf (k := 45) (q := (64100, 135)) inv gm rfl (by decide) (by decide) (by decide) (fun e => absurd e (by decide))
  obtain ⟨bk, m46, gk⟩ := hn_rf (k := 46) (q := (65100, 12)) inv gm rfl (by decide) (by decide) (by decide) (fun e => absurd e (by decide))
  exact r_X12_worthC ⟨gm, gs, m6, fun _ _ => rfl, hW.2.2.1⟩ gf m45 (ye_H.ofs h6 hW.2.2.2.1.2.zy) m46 gk (fun M1 hK => ⟨rfl, hK.2.2.1, hK.2.2.2 32 (by decide) (by decide) (by decide) (by decide) (by decide)⟩)
theorem lq_musR (hV : lw_V G M x m tp s kp) (hW : lq_W G M m s kp kc w) (h6 : rv_r6 (M.1 s) 0) : mj_R mj_tab 40 215 [.inr (.inr (some m)), .inl z1, .inl z2] G M (fun r _ M' => r = some (.inl (lr_must (M.1 s) z1 z2)) ∧ (∀ j, j < 537 → M'.1 s j = M.1 s j) ∧ M'.1 m 32 = M.1 m 32) := by
  obtain ⟨inv, ⟨gx, gm, gtp, gs, -⟩, ⟨x0, m6, -⟩, -⟩ := hV
  obtain ⟨bf, m45, gf⟩ := hn_rf (k := 45) (q := (64100, 135)) inv gm rfl (by decide) (by decide) (by decide) (fun e => absurd e (by decide))
  exact r_X12_mustC ⟨gm, gs, m6, fun _ _ => rfl, hW.2.2.1⟩ gf m45 (ye_H.ofs h6 hW.2.2.2.1.2.zy) (fun M1 hK => ⟨rfl, hK.2.2.1, hK.2.2.2 32 (by decide) (by decide) (by decide) (by decide) (by decide)⟩)
theorem lq_shoR (hV : lw_V G M x m tp s kp) (hW : lq_W G M m s kp kc w) (h6 : rv_r6 (M.1 s) 0) : mj_R mj_tab 40 240 [.inr (.inr (some m)), .inl z1, .inl z2, .inl z3] G M (fun r _ M' => r = some (.inl (lr_shores (M.1 s) z1 z2 z3)) ∧ (∀ j, j < 537 → M'.1 s j = M.1 s j) ∧ M'.1 m 32 = M.1 m 32) := by
  obtain ⟨inv, ⟨gx, gm, gtp, gs, -⟩, ⟨x0, m6, -⟩, -⟩ := hV
  obtain ⟨bf, m45, gf⟩ := hn_rf (k := 45) (q := (64100, 135)) inv gm rfl (by decide) (by decide) (by decide) (fun e => absurd e (by decide))
  exact r_X12_shoresC ⟨gm, gs, m6, fun _ _ => rfl, hW.2.2.1⟩ gf m45 (ye_H.ofs h6 hW.2.2.2.1.2.zy) (fun M1 hK => ⟨rfl, hK.2.2.1, hK.2.2.2 32 (by decide) (by decide) (by decide) (by decide) (by decide)⟩)
theorem lq_soR (hV : lw_V G M x m tp s kp) (hW : lq_W G M m s kp kc w) (h6 : rv_r6 (M.1 s) 0) : mj_R mj_tab 40 241 [.inr (.inr (some m))] G M (fun r _ M' => r = some (.inl (lr_shoresOf (M.1 s))) ∧ (∀ j, j < 537 → M'.1 s j = M.1 s j) ∧ M'.1 m 32 = M.1 m 32) := by
  obtain ⟨inv, ⟨gx, gm, gtp, gs, -⟩, ⟨x0, m6, -⟩, -⟩ := hV
  obtain ⟨bf, m45, gf⟩ := hn_rf (k := 45) (q := (64100, 135)) inv gm rfl (by decide) (by decide) (by decide) (fun e => absurd e (by decide))
  exact r_X12_shoresOfC (d := 34) ⟨gm, gs, m6, fun _ _ => rfl, hW.2.2.1⟩ gf m45 (ye_H.ofs h6 hW.2.2.2.1.2.zy) (fun M1 hK => ⟨rfl, hK.2.2.1, hK.2.2.2 32 (by decide) (by decide) (by decide) (by decide) (by decide)⟩)
theorem lq_thR (hV : lw_V G M x m tp s kp) (hW : lq_W G M m s kp kc w) (h6 : rv_r6 (M.1 s) 0) : mj_R mj_tab 40 248 [.inr (.inr (some m))] G M (fun r _ M' => r = some (.inl (lr_thirsty (M.1 s))) ∧ (∀ j, j < 537 → M'.1 s j = M.1 s j) ∧ M'.1 m 32 = M.1 m 32) := by
  obtain ⟨inv, ⟨gx, gm, gtp, gs, -⟩, ⟨x0, m6, -⟩, -⟩ := hV
  obtain ⟨bf, m45, gf⟩ := hn_rf (k := 45) (q := (64100, 135)) inv gm rfl (by decide) (by decide) (by decide) (fun e => absurd e (by decide))
  exact r_X12_thirstyC (d := 34) ⟨gm, gs, m6, fun _ _ => rfl, hW.2.2.1⟩ gf m45 (ye_H.ofs h6 hW.2.2.2.1.2.zy) (fun M1 hK => ⟨rfl, hK.2.2.1, hK.2.2.2 32 (by decide) (by decide) (by decide) (by decide) (by decide)⟩)
theorem lq_drR (hV : lw_V G M x m tp s kp) (hW : lq_W G M m s kp kc w) (h6 : rv_r6 (M.1 s) 0) : mj_R mj_tab 40 182 [.inr (.inr (some m)), .inl z1] G M (fun r _ M' => r = some (.inl (lr_drawn (M.1 s) z1)) ∧ (∀ j, j < 537 → M'.1 s j = M.1 s j) ∧ M'.1 m 32 = M.1 m 32) := by
  obtain ⟨inv, ⟨gx, gm, gtp, gs, -⟩, ⟨x0, m6, -⟩, -⟩ := hV
  obtain ⟨bf, m45, gf⟩ := hn_rf (k := 45) (q := (64100, 135)) inv gm rfl (by decide) (by decide) (by decide) (fun e => absurd e (by decide))
  exact r_X12_drawnC (d := 34) ⟨gm, gs, m6, fun _ _ => rfl, hW.2.2.1⟩ gf m45 (ye_H.ofs h6 hW.2.2.2.1.2.zy) (fun M1 hK => ⟨rfl, hK.2.2.1, hK.2.2.2 32 (by decide) (by decide) (by decide) (by decide) (by decide)⟩)
theorem lq_leR (hV : lw_V G M x m tp s kp) (hW : lq_W G M m s kp kc w) (b0 : 0 ≤ M.1 s 0 ∧ M.1 s 0 ≤ 8) : mj_R mj_tab 40 210 [.inr (.inr (some m))] G M (fun _ _ M' => (∀ j, j < 537 → M'.1 s j = M.1 s j) ∧ M'.1 m 32 = M.1 m 32) := by
  obtain ⟨inv, ⟨gx, gm, gtp, gs, -⟩, ⟨x0, m6, -⟩, -⟩ := hV
  exact r_X12_leaksY inv gm gs m6 b0 hW.2.2.1 (fun z M' e1 e2 => ⟨e1, e2.trans hW.2.2.1.symm⟩)
theorem sz_headW {w : sx_w} {h : sx_H} {G : mj_G} {M : mj_M} (hR : sx_RH w h G M) (k2 : sz_hk h = true) : lq_W (sz_G w h G) (sz_M w h G M) (w.2.2.2 336) (w.2.2.2 338) (w.2.2.2 357) (w.2.2.2 120) w.2.2.2 := by
  have n1 := (sz_hk_s k2).1
  obtain ⟨ya, yb, -, -, -⟩ := sz_hy_s k2
  have tg : ∀ i t n, (i, t, n) ∈ sz_lt → sz_G w h G (w.2.2.2 i) = (t, n) := fun i t n he => sz_tg_s (yb (i, t, n) he) hR (by have := sz_lt_lt _ he; omega)
  have rq : ∀ i k j, (i, k, j) ∈ sz_lr → (sz_M w h G M).2.2 (w.2.2.2 i) k = some (w.2.2.2 j) := fun i k j he => sz_rq_s (ya (i, k, j) he) hR (by have := (sz_lr_lt _ he).1; omega) (sz_lr_lt _ he).2
  have c0 : (sz_M w h G M).1 (w.2.2.2 120) 0 = 0 := sz_q_s hR k2 (by decide +kernel)
  have c1 : (sz_M w h G M).1 (w.2.2.2 120) 1 = 0 := sz_q_s hR k2 (by decide +kernel)
  have s0 : ∀ j, j < 36 → (sz_M w h G M).1 (w.2.2.2 338) (184 + j) = 0 := fun j hj => sz_q_s hR k2 ((by decide +kernel : ∀ j, j < 36 → sz_q 338 (184 + j) = true) j hj)
  have s1 : (sz_M w h G M).1 (w.2.2.2 338) 0 = 0 := sz_q_s hR k2 (by decide +kernel)
  have s2 : (sz_M w h G M).1 (w.2.2.2 338) (0 + 221) = 0 := sz_q_s hR k2 (by decide +kernel)
  have y0 : (sz_M w h G M).1 (w.2.2.2 61) 0 = 0 := sz_q_s hR k2 (by decide +kernel)
  have m32 : (sz_M w h G M).1 (w.2.2.2 336) 32 = -1 := sz_iv_s ((sz_hz_s k2).2 (336, 32, -1) (by decide +kernel)) hR (by omega) (by decide) (by
    have g := tg 336 1012 0 (by decide +kernel)
    rw [sz_G_in (by omega)] at g
    rw [g]; decide)
  refine ⟨fun Y hY => ?_, ⟨fun Y hY => ?_, rq 29 3 61 (by decide +kernel), fun k hk => ?_⟩, m32, ⟨⟨y0.trans s2.symm, Or.inl s2, fun e => by rw [s2] at e; exact absurd e (by decide)⟩, (yd_ok.of0 (by rw [s1]; exact Int.le_refl 0) s0).zz⟩, fun k hk h0 => ?_⟩
  · rcases yw_Y3 hY with e | e | e <;> subst e
    · exact ⟨tg _ _ _ (by decide +kernel), tg _ _ _ (by decide +kernel), tg _ _ _ (by decide +kernel), tg _ _ _ (by decide +kernel), tg _ _ _ (by decide +kernel), fun t ht => tg _ _ _ ((by decide +kernel : ∀ t, t < 8 → (61 + 5 + t, 46100, 11) ∈ sz_lt) t ht)⟩
    · exact ⟨tg _ _ _ (by decide +kernel), tg _ _ _ (by decide +kernel), tg _ _ _ (by decide +kernel), tg _ _ _ (by decide +kernel), tg _ _ _ (by decide +kernel), fun t ht => tg _ _ _ ((by decide +kernel : ∀ t, t < 8 → (278 + 5 + t, 46100, 11) ∈ sz_lt) t ht)⟩
    · exact ⟨tg _ _ _ (by decide +kernel), tg _ _ _ (by decide +kernel), tg _ _ _ (by decide +kernel), tg _ _ _ (by decide +kernel), tg _ _ _ (by decide +kernel), fun t ht => tg _ _ _ ((by decide +kernel : ∀ t, t < 8 → (323 + 5 + t, 46100, 11) ∈ sz_lt) t ht)⟩
  · rcases yw_Y3 hY with e | e | e <;> subst e
    · exact ⟨rq _ _ _ (by decide +kernel), rq _ _ _ (by decide +kernel), rq _ _ _ (by decide +kernel), rq _ _ _ (by decide +kernel), fun t ht => rq _ _ _ ((by decide +kernel : ∀ t, t < 8 → (61 + 4, t, 61 + 5 + t) ∈ sz_lr) t ht)⟩
    · exact ⟨rq _ _ _ (by decide +kernel), rq _ _ _ (by decide +kernel), rq _ _ _ (by decide +kernel), rq _ _ _ (by decide +kernel), fun t ht => rq _ _ _ ((by decide +kernel : ∀ t, t < 8 → (278 + 4, t, 278 + 5 + t) ∈ sz_lr) t ht)⟩
    · exact ⟨rq _ _ _ (by decide +kernel), rq _ _ _ (by decide +kernel), rq _ _ _ (by decide +kernel), rq _ _ _ (by decide +kernel), fun t ht => rq _ _ _ ((by decide +kernel : ∀ t, t < 8 → (323 + 4, t, 323 + 5 + t) ∈ sz_lr) t ht)⟩
  · rcases (by omega : k = 0 ∨ k = 1) with e | e <;> subst e
    · exact rq 246 3 278 (by decide +kernel)
    · exact rq 291 3 323 (by decide +kernel)
  · exfalso
    rcases (by omega : k = 0 ∨ k = 1) with e | e <;> subst e
    · exact h0 c0
    · exact h0 c1
end YT2
end
section
/-! ===== contract, as CONTRACTS now tell (laid by a program) ===== -/
section SW
variable {d : Nat} {full : List mj_E} {Q : mj_P} {rest : List mj_E} {L : mj_L} {st : List mj_V} {G : mj_G} {M : mj_M} {cb sb pc : Nat} {im : Int}
theorem w_sw3 {df lo hi z : Int} {offs : _} {t0 t1 t2 t3 : Nat} (k0 : z < lo ∨ hi < z → wz d full Q (full.drop t0) L st G M cb sb) (k1 : z = lo → wz d full Q (full.drop t1) L st G M cb sb) (k2 : z = lo + 1 → wz d full Q (full.drop t2) L st G M cb sb) (k3 : z = lo + 1 + 1 → wz d full Q (full.drop t3) L st G M cb sb) : wz d full Q ((.tableswitch df lo hi offs, pc, [t0, t1, t2, t3], im) :: rest) L (.inl z :: st) G M cb sb := wz_st ⟨k0, k1, k2, k3, trivial⟩
end SW
theorem ab_s_d : ∀ j, j < 36 → j % 3 ≠ 2 → 0 ≤ (ab_rg 51100 (184 + j)).1 ∧ (ab_rg 51100 (184 + j)).2 ≤ 9 := by decide
theorem rd_e1 {M : mj_M} {H : Nat → Int} {w : Nat → Nat} {D j k : Nat} (h : rd_E M H 0 w D) (hj : j < 12) (e : k = 184 + 3 * j) : M.1 (w (D + 1)) j = H k - 1 := by
  have := (h.1 j hj).1
  rw [Nat.zero_add] at this; rw [e]; exact this
theorem rd_e2 {M : mj_M} {H : Nat → Int} {w : Nat → Nat} {D j k : Nat} (h : rd_E M H 0 w D) (hj : j < 12) (e : k = 185 + 3 * j) : M.1 (w (D + 2)) j = H k - 1 := by
  have := (h.1 j hj).2.1
  rw [Nat.zero_add] at this; rw [e]; exact this
theorem rd_e3 {M : mj_M} {H : Nat → Int} {w : Nat → Nat} {D j k : Nat} (h : rd_E M H 0 w D) (hj : j < 12) (e : k = 186 + 3 * j) : M.1 (w (D + 3)) j = H k := by
  have := (h.1 j hj).2.2
  rw [Nat.zero_add] at this; rw [e]; exact this
def lr_contract (H : Nat → Int) (z1 z2 : Int) : Int := if (0 ≤ z1 ∧ z1 ≤ 11) ∧ (0 ≤ z2 ∧ z2 ≤ 2) ∧ H (3 * z1 + 184).toNat ≠ 0 then (if z2 = 0 then H (3 * z1 + 184).toNat - 1 else if z2 = 1 then H (3 * z1 + 185).toNat - 1 else H (3 * z1 + 186).toNat) else -1
set_option maxRecDepth 100000 in
set_option maxHeartbeats 2000000 in
theorem lr_X11_contract {G : mj_G} {M : mj_M} {x m tp s kp bc bt kc kr : Nat} {w : Nat → Nat} {z1 z2 : Int} (hD : lq_D G M s kp kc w) (hI : lp_I G M x m tp s kp bc bt kc kr w) (hz1 : mj_in z1) (hz2 : mj_in z2) : mj_R mj_tab 40 116 [.inr (.inr (some x)), .inl z1, .inl z2] G M (fun r _ _ => r = some (.inl (lr_contract (M.1 s) z1 z2))) := by
  obtain ⟨hA, hB, p, q, hN, hG6, -⟩ := hI.J
  have hG := hG6.1
  have hG5 := hG6
  obtain ⟨gpl, gna, gta, gba, gwa, gtr, gbr, itr, ibr, p0, p1, p2, p3, rt, rb⟩ := lq_K hA hB hN.pin.1
  have gx := hI.gx
  have gnw := hA.2.2.1
  have b0 := hI.b0
  have bz1 : (-2147483648 : Int) ≤ z1 ∧ z1 < 2147483648 := hz1
  have bz2 : (-2147483648 : Int) ≤ z2 ∧ z2 < 2147483648 := hz2
  obtain ⟨hDA, hDB, ⟨dn, ds, hDN, hE⟩, -⟩ := hD
  have gD := hDA dn hDN.nin.1
  have rD := hDB.1 dn hDN.nin.1
  refine ⟨Nat.le_of_ble_eq_true rfl, ?_⟩
  show wz 39 mt_X11_contract.2.2.2.2.1 _ mt_X11_contract.2.2.2.2.1 [some (.inr (.inr (some x))), some (.inl z1), some (.inl z2)] [] G M _ _
  refine w_iln rfl ?_
  refine w_cs (st := []) rfl (Nat.le_of_ble_eq_true rfl) (fun kk h => h) ⟨Nat.le_of_ble_eq_true rfl, ?_⟩
  show wz (38) mt_X11_isMonth.2.2.2.2.1 _ mt_X11_isMonth.2.2.2.2.1 [some (.inl z1)] [] _ _ _ _
  refine w_iln rfl ?_
  refine w_iflt (fun c1 => ?_) (fun c1 => ?_)
  · skip
    refine w_ic ?_
    refine w_iret (fun _ => Or.inl rfl) ?_
    refine w_ifeq (fun c2 => ?_) (fun c2 => ?_)
    · skip
      refine w_ic ?_
      exact w_iret (fun q => by cases q) (by show some (Sum.inl _) = some (Sum.inl _); unfold lr_contract; split <;> (try split) <;> (try split) <;> first | rfl | (exfalso; omega) | (congr 1; omega) | (rw [show (3 * z1 + z2 + 184).toNat = (3 * z1 + 184).toNat by omega]) | (rw [show (3 * z1 + z2 + 184).toNat = (3 * z1 + 185).toNat by omega]))
    · exfalso; omega
  · skip
    refine w_iln rfl ?_
    refine w_bp ?_
    refine w_cmge (fun c3 => ?_) (fun c3 => ?_)
    · skip
      refine w_ic ?_
      refine w_iret (fun _ => Or.inl rfl) ?_
      refine w_ifeq (fun c4 => ?_) (fun c4 => ?_)
      · skip
        refine w_ic ?_
        exact w_iret (fun q => by cases q) (by show some (Sum.inl _) = some (Sum.inl _); unfold lr_contract; split <;> (try split) <;> (try split) <;> first | rfl | (exfalso; omega) | (congr 1; omega) | (rw [show (3 * z1 + z2 + 184).toNat = (3 * z1 + 184).toNat by omega]) | (rw [show (3 * z1 + z2 + 184).toNat = (3 * z1 + 185).toNat by omega]))
      · exfalso; omega
    · skip
      refine w_ic ?_
      refine w_goto ?_
      refine w_iret (fun _ => Or.inr rfl) ?_
      refine w_ifeq (fun c5 => ?_) (fun c5 => ?_)
      · exfalso; omega
      · skip
        refine w_aln rfl ?_
        refine w_gr gx rfl (by decide) rfl (hB.2.1) ?_
        refine w_gr gnw rfl (by decide) rfl (hDN.1) ?_
        refine w_iln rfl ?_
        refine w_cv (st := []) rfl gD.1 rfl (Nat.le_of_ble_eq_true rfl) (fun kk h => h) ⟨Nat.le_of_ble_eq_true rfl, ?_⟩
        show wz (38) mt_X1_tells.2.2.2.2.1 _ mt_X1_tells.2.2.2.2.1 [some (.inr (.inr (some (w dn)))), some (.inl z1)] [] _ _ _ _
        refine w_aln rfl ?_
        refine w_gr gD.1 rfl (by decide) rfl (rD.1) ?_
        refine w_iln rfl ?_
        refine w_iald (v := ((M.1 s (3 * z1 + 184).toNat) - 1)) gD.2.1 rfl (by show (0 : Int) ≤ z1; omega) (by show z1 < ((12 : Nat) : Int); omega) (rd_e1 hE (by show z1.toNat < 12; omega) (by show (3 * z1 + 184).toNat = 184 + 3 * z1.toNat; omega)) ?_
        refine w_ic ?_
        refine w_cmeq (fun c6 => ?_) (fun c6 => ?_)
        · skip
          refine w_ic ?_
          refine w_iret (fun _ => Or.inl rfl) ?_
          refine w_ifne (fun c7 => ?_) (fun c7 => ?_)
          · exfalso; omega
          · skip
            refine w_ic ?_
            exact w_iret (fun q => by cases q) (by show some (Sum.inl _) = some (Sum.inl _); unfold lr_contract; split <;> (try split) <;> (try split) <;> first | rfl | (exfalso; omega) | (congr 1; omega) | (rw [show (3 * z1 + z2 + 184).toNat = (3 * z1 + 184).toNat by omega]) | (rw [show (3 * z1 + z2 + 184).toNat = (3 * z1 + 185).toNat by omega]))
        · skip
          refine w_ic ?_
          refine w_goto ?_
          refine w_iret (fun _ => Or.inr rfl) ?_
          refine w_ifne (fun c8 => ?_) (fun c8 => ?_)
          · skip
            refine w_iln rfl ?_
            refine w_sw3 (fun c9 => ?_) (fun c10 => ?_) (fun c11 => ?_) (fun c12 => ?_)
            · skip
              refine w_ic ?_
              exact w_iret (fun q => by cases q) (by show some (Sum.inl _) = some (Sum.inl _); unfold lr_contract; split <;> (try split) <;> (try split) <;> first | rfl | (exfalso; omega) | (congr 1; omega) | (rw [show (3 * z1 + z2 + 184).toNat = (3 * z1 + 184).toNat by omega]) | (rw [show (3 * z1 + z2 + 184).toNat = (3 * z1 + 185).toNat by omega]))
            · skip
              refine w_aln rfl ?_
              refine w_gr gx rfl (by decide) rfl (hB.2.1) ?_
              refine w_gr gnw rfl (by decide) rfl (hDN.1) ?_
              refine w_gr gD.1 rfl (by decide) rfl (rD.1) ?_
              refine w_iln rfl ?_
              refine w_iald (v := ((M.1 s (3 * z1 + 184).toNat) - 1)) gD.2.1 rfl (by show (0 : Int) ≤ z1; omega) (by show z1 < ((12 : Nat) : Int); omega) (rd_e1 hE (by show z1.toNat < 12; omega) (by show (3 * z1 + 184).toNat = 184 + 3 * z1.toNat; omega)) ?_
              exact w_iret (fun q => by cases q) (by show some (Sum.inl _) = some (Sum.inl _); unfold lr_contract; split <;> (try split) <;> (try split) <;> first | rfl | (exfalso; omega) | (congr 1; omega) | (rw [show (3 * z1 + z2 + 184).toNat = (3 * z1 + 184).toNat by omega]) | (rw [show (3 * z1 + z2 + 184).toNat = (3 * z1 + 185).toNat by omega]))
            · skip
              refine w_aln rfl ?_
              refine w_gr gx rfl (by decide) rfl (hB.2.1) ?_
              refine w_gr gnw rfl (by decide) rfl (hDN.1) ?_
              refine w_gr gD.1 rfl (by decide) rfl (rD.2.1) ?_
              refine w_iln rfl ?_
              refine w_iald (v := ((M.1 s (3 * z1 + 185).toNat) - 1)) gD.2.2.1 rfl (by show (0 : Int) ≤ z1; omega) (by show z1 < ((12 : Nat) : Int); omega) (rd_e2 hE (by show z1.toNat < 12; omega) (by show (3 * z1 + 185).toNat = 185 + 3 * z1.toNat; omega)) ?_
              exact w_iret (fun q => by cases q) (by show some (Sum.inl _) = some (Sum.inl _); unfold lr_contract; split <;> (try split) <;> (try split) <;> first | rfl | (exfalso; omega) | (congr 1; omega) | (rw [show (3 * z1 + z2 + 184).toNat = (3 * z1 + 184).toNat by omega]) | (rw [show (3 * z1 + z2 + 184).toNat = (3 * z1 + 185).toNat by omega]))
            · skip
              refine w_aln rfl ?_
              refine w_gr gx rfl (by decide) rfl (hB.2.1) ?_
              refine w_gr gnw rfl (by decide) rfl (hDN.1) ?_
              refine w_gr gD.1 rfl (by decide) rfl (rD.2.2) ?_
              refine w_iln rfl ?_
              refine w_iald (v := (M.1 s (3 * z1 + 186).toNat)) gD.2.2.2 rfl (by show (0 : Int) ≤ z1; omega) (by show z1 < ((12 : Nat) : Int); omega) (rd_e3 hE (by show z1.toNat < 12; omega) (by show (3 * z1 + 186).toNat = 186 + 3 * z1.toNat; omega)) ?_
              exact w_iret (fun q => by cases q) (by show some (Sum.inl _) = some (Sum.inl _); unfold lr_contract; split <;> (try split) <;> (try split) <;> first | rfl | (exfalso; omega) | (congr 1; omega) | (rw [show (3 * z1 + z2 + 184).toNat = (3 * z1 + 184).toNat by omega]) | (rw [show (3 * z1 + z2 + 184).toNat = (3 * z1 + 185).toNat by omega]))
          · exfalso; omega
set_option maxRecDepth 100000 in
set_option maxHeartbeats 2000000 in
theorem lr_X12_contract {G : mj_G} {M : mj_M} {x m tp s kp bc bt kc kr : Nat} {w : Nat → Nat} {z1 z2 : Int} (hI : lp_I G M x m tp s kp bc bt kc kr w) (hz1 : mj_in z1) (hz2 : mj_in z2) : mj_R mj_tab 40 176 [.inr (.inr (some m)), .inl z1, .inl z2] G M (fun r _ _ => r = some (.inl (lr_contract (M.1 s) z1 z2))) := by
  have gm := hI.gm
  have gs := hI.gs
  have m6 := hI.m6
  have b0 := hI.b0
  have bz1 : (-2147483648 : Int) ≤ z1 ∧ z1 < 2147483648 := hz1
  have bz2 : (-2147483648 : Int) ≤ z2 ∧ z2 < 2147483648 := hz2
  have hs : 0 ≤ z1 → z1 ≤ 11 → 0 ≤ z2 → z2 ≤ 1 → 0 ≤ M.1 s (3 * z1 + z2 + 184).toNat ∧ M.1 s (3 * z1 + z2 + 184).toNat ≤ 9 := fun a1 a2 a3 a4 => by
    have h := hI.V.1.1 s (184 + (3 * z1 + z2).toNat)
    rw [gs] at h
    have g := ab_s_d (3 * z1 + z2).toNat (by omega) (by omega)
    rw [show (3 * z1 + z2 + 184).toNat = 184 + (3 * z1 + z2).toNat by omega]
    exact ⟨Int.le_trans g.1 h.1, Int.le_trans h.2 g.2⟩
  refine ⟨Nat.le_of_ble_eq_true rfl, ?_⟩
  show wz 39 mt_X12_contract.2.2.2.2.1 _ mt_X12_contract.2.2.2.2.1 [some (.inr (.inr (some m))), some (.inl z1), some (.inl z2)] [] G M _ _
  refine w_aln rfl ?_
  refine w_ic ?_
  refine w_pi gm rfl (by decide) rfl (fun q => by cases q) ?_
  refine w_iln rfl ?_
  refine w_cs (st := []) rfl (Nat.le_of_ble_eq_true rfl) (fun kk h => h) ⟨Nat.le_of_ble_eq_true rfl, ?_⟩
  show wz (38) mt_X12_isMonth.2.2.2.2.1 _ mt_X12_isMonth.2.2.2.2.1 [some (.inl z1)] [] _ _ _ _
  refine w_iln rfl ?_
  refine w_ic ?_
  refine w_bp ?_
  refine w_cs (st := []) rfl (Nat.le_of_ble_eq_true rfl) (fun kk h => h) ⟨Nat.le_of_ble_eq_true rfl, ?_⟩
  show wz (37) mt_X12_isIn.2.2.2.2.1 _ mt_X12_isIn.2.2.2.2.1 [some (.inl z1), some (.inl 0), some (.inl 11)] [] _ _ _ _
  refine w_iln rfl ?_
  refine w_iln rfl ?_
  refine w_cmlt (fun c1 => ?_) (fun c1 => ?_)
  · skip
    refine w_ic ?_
    refine w_iret (fun _ => Or.inl rfl) ?_
    refine w_iret (fun _ => Or.inl rfl) ?_
    refine w_ifeq (fun c2 => ?_) (fun c2 => ?_)
    · skip
      refine w_ic ?_
      exact w_iret (fun q => by cases q) (by show some (Sum.inl _) = some (Sum.inl _); unfold lr_contract; split <;> (try split) <;> (try split) <;> first | rfl | (exfalso; omega) | (congr 1; omega) | (rw [show (3 * z1 + z2 + 184).toNat = (3 * z1 + 184).toNat by omega]) | (rw [show (3 * z1 + z2 + 184).toNat = (3 * z1 + 185).toNat by omega]))
    · exfalso; omega
  · skip
    refine w_iln rfl ?_
    refine w_iln rfl ?_
    refine w_cmgt (fun c3 => ?_) (fun c3 => ?_)
    · skip
      refine w_ic ?_
      refine w_iret (fun _ => Or.inl rfl) ?_
      refine w_iret (fun _ => Or.inl rfl) ?_
      refine w_ifeq (fun c4 => ?_) (fun c4 => ?_)
      · skip
        refine w_ic ?_
        exact w_iret (fun q => by cases q) (by show some (Sum.inl _) = some (Sum.inl _); unfold lr_contract; split <;> (try split) <;> (try split) <;> first | rfl | (exfalso; omega) | (congr 1; omega) | (rw [show (3 * z1 + z2 + 184).toNat = (3 * z1 + 184).toNat by omega]) | (rw [show (3 * z1 + z2 + 184).toNat = (3 * z1 + 185).toNat by omega]))
      · exfalso; omega
    · skip
      refine w_ic ?_
      refine w_goto ?_
      refine w_iret (fun _ => Or.inr rfl) ?_
      refine w_iret (fun _ => Or.inr rfl) ?_
      refine w_ifeq (fun c5 => ?_) (fun c5 => ?_)
      · exfalso; omega
      · skip
        refine w_iln rfl ?_
        refine w_ic ?_
        refine w_ic ?_
        refine w_cs (st := []) rfl (Nat.le_of_ble_eq_true rfl) (fun kk h => h) ⟨Nat.le_of_ble_eq_true rfl, ?_⟩
        show wz (38) mt_X12_isIn.2.2.2.2.1 _ mt_X12_isIn.2.2.2.2.1 [some (.inl z2), some (.inl 0), some (.inl 2)] [] _ _ _ _
        refine w_iln rfl ?_
        refine w_iln rfl ?_
        refine w_cmlt (fun c6 => ?_) (fun c6 => ?_)
        · skip
          refine w_ic ?_
          refine w_iret (fun _ => Or.inl rfl) ?_
          refine w_ifeq (fun c7 => ?_) (fun c7 => ?_)
          · skip
            refine w_ic ?_
            exact w_iret (fun q => by cases q) (by show some (Sum.inl _) = some (Sum.inl _); unfold lr_contract; split <;> (try split) <;> (try split) <;> first | rfl | (exfalso; omega) | (congr 1; omega) | (rw [show (3 * z1 + z2 + 184).toNat = (3 * z1 + 184).toNat by omega]) | (rw [show (3 * z1 + z2 + 184).toNat = (3 * z1 + 185).toNat by omega]))
          · exfalso; omega
        · skip
          refine w_iln rfl ?_
          refine w_iln rfl ?_
          refine w_cmgt (fun c8 => ?_) (fun c8 => ?_)
          · skip
            refine w_ic ?_
            refine w_iret (fun _ => Or.inl rfl) ?_
            refine w_ifeq (fun c9 => ?_) (fun c9 => ?_)
            · skip
              refine w_ic ?_
              exact w_iret (fun q => by cases q) (by show some (Sum.inl _) = some (Sum.inl _); unfold lr_contract; split <;> (try split) <;> (try split) <;> first | rfl | (exfalso; omega) | (congr 1; omega) | (rw [show (3 * z1 + z2 + 184).toNat = (3 * z1 + 184).toNat by omega]) | (rw [show (3 * z1 + z2 + 184).toNat = (3 * z1 + 185).toNat by omega]))
            · exfalso; omega
          · skip
            refine w_ic ?_
            refine w_goto ?_
            refine w_iret (fun _ => Or.inr rfl) ?_
            refine w_ifeq (fun c10 => ?_) (fun c10 => ?_)
            · exfalso; omega
            · skip
              refine w_aln rfl ?_
              refine w_gr gm rfl (by decide) rfl (m6) ?_
              refine w_sp ?_
              refine w_ic ?_
              refine w_iln rfl ?_
              refine w_mul ⟨by show (-2147483648 : Int) ≤ 3 * z1; omega, by show 3 * z1 < (2147483648 : Int); omega⟩ ?_
              refine w_add ⟨by show (-2147483648 : Int) ≤ 184 + (3 * z1); omega, by show 184 + (3 * z1) < (2147483648 : Int); omega⟩ ?_
              refine w_iald (v := (M.1 s (3 * z1 + 184).toNat)) gs rfl (by show (0 : Int) ≤ 184 + (3 * z1); omega) (by show 184 + (3 * z1) < ((537 : Nat) : Int); omega) ((hn_n (Or.inl (hn_ne gs gm (by decide)))).trans (congrArg (M.1 s) (by show (184 + (3 * z1)).toNat = (3 * z1 + 184).toNat; omega))) ?_
              refine w_ifne (fun c11 => ?_) (fun c11 => ?_)
              · skip
                refine w_iln rfl ?_
                refine w_ic ?_
                refine w_cmge (fun c12 => ?_) (fun c12 => ?_)
                · skip
                  refine w_aln rfl ?_
                  refine w_gr gm rfl (by decide) rfl (m6) ?_
                  refine w_sp ?_
                  refine w_ic ?_
                  refine w_iln rfl ?_
                  refine w_mul ⟨by show (-2147483648 : Int) ≤ 3 * z1; omega, by show 3 * z1 < (2147483648 : Int); omega⟩ ?_
                  refine w_add ⟨by show (-2147483648 : Int) ≤ 184 + (3 * z1); omega, by show 184 + (3 * z1) < (2147483648 : Int); omega⟩ ?_
                  refine w_ic ?_
                  refine w_add ⟨by show (-2147483648 : Int) ≤ (184 + (3 * z1)) + 2; omega, by show (184 + (3 * z1)) + 2 < (2147483648 : Int); omega⟩ ?_
                  refine w_iald (v := (M.1 s (3 * z1 + 186).toNat)) gs rfl (by show (0 : Int) ≤ (184 + (3 * z1)) + 2; omega) (by show (184 + (3 * z1)) + 2 < ((537 : Nat) : Int); omega) ((hn_n (Or.inl (hn_ne gs gm (by decide)))).trans (congrArg (M.1 s) (by show ((184 + (3 * z1)) + 2).toNat = (3 * z1 + 186).toNat; omega))) ?_
                  exact w_iret (fun q => by cases q) (by show some (Sum.inl _) = some (Sum.inl _); unfold lr_contract; split <;> (try split) <;> (try split) <;> first | rfl | (exfalso; omega) | (congr 1; omega) | (rw [show (3 * z1 + z2 + 184).toNat = (3 * z1 + 184).toNat by omega]) | (rw [show (3 * z1 + z2 + 184).toNat = (3 * z1 + 185).toNat by omega]))
                · skip
                  refine w_aln rfl ?_
                  refine w_gr gm rfl (by decide) rfl (m6) ?_
                  refine w_sp ?_
                  refine w_ic ?_
                  refine w_iln rfl ?_
                  refine w_mul ⟨by show (-2147483648 : Int) ≤ 3 * z1; omega, by show 3 * z1 < (2147483648 : Int); omega⟩ ?_
                  refine w_add ⟨by show (-2147483648 : Int) ≤ 184 + (3 * z1); omega, by show 184 + (3 * z1) < (2147483648 : Int); omega⟩ ?_
                  refine w_iln rfl ?_
                  refine w_add ⟨by show (-2147483648 : Int) ≤ (184 + (3 * z1)) + z2; omega, by show (184 + (3 * z1)) + z2 < (2147483648 : Int); omega⟩ ?_
                  refine w_iald (v := (M.1 s (3 * z1 + z2 + 184).toNat)) gs rfl (by show (0 : Int) ≤ (184 + (3 * z1)) + z2; omega) (by show (184 + (3 * z1)) + z2 < ((537 : Nat) : Int); omega) ((hn_n (Or.inl (hn_ne gs gm (by decide)))).trans (congrArg (M.1 s) (by show ((184 + (3 * z1)) + z2).toNat = (3 * z1 + z2 + 184).toNat; omega))) ?_
                  refine w_ic ?_
                  refine w_sub ⟨by show (-2147483648 : Int) ≤ (M.1 s (3 * z1 + z2 + 184).toNat) - 1; omega, by show (M.1 s (3 * z1 + z2 + 184).toNat) - 1 < (2147483648 : Int); omega⟩ ?_
                  refine w_goto ?_
                  exact w_iret (fun q => by cases q) (by show some (Sum.inl _) = some (Sum.inl _); unfold lr_contract; split <;> (try split) <;> (try split) <;> first | rfl | (exfalso; omega) | (congr 1; omega) | (rw [show (3 * z1 + z2 + 184).toNat = (3 * z1 + 184).toNat by omega]) | (rw [show (3 * z1 + z2 + 184).toNat = (3 * z1 + 185).toNat by omega]))
              · skip
                refine w_ic ?_
                exact w_iret (fun q => by cases q) (by show some (Sum.inl _) = some (Sum.inl _); unfold lr_contract; split <;> (try split) <;> (try split) <;> first | rfl | (exfalso; omega) | (congr 1; omega) | (rw [show (3 * z1 + z2 + 184).toNat = (3 * z1 + 184).toNat by omega]) | (rw [show (3 * z1 + z2 + 184).toNat = (3 * z1 + 185).toNat by omega]))
end
