/-! ===== leaks of the reference: s is told back (laid by a program) ===== -/
/-- before it thinks: all but m's own marks is as it was -/
def lk_A (m : Nat) (M M' : mj_M) : Prop := M'.2 = M.2 ∧ (∀ a, a ≠ m → M'.1 a = M.1 a) ∧ M'.1 m 32 = M.1 m 32 ∧ M'.1 m 3 = M.1 m 2
/-- while it thinks -/
def lk_B (G : mj_G) (m s bf rw_ : Nat) (M M' : mj_M) : Prop := ab_Inv G M' ∧ M'.2.2 m 6 = some s ∧ M'.2.2 m 45 = some bf ∧ M'.2.2 m 48 = some rw_ ∧ (∀ k, k < 135 → M'.1 bf k = M.1 s (221 + k)) ∧ (∀ j, j < 221 ∨ (356 ≤ j ∧ j < 537) → M'.1 s j = M.1 s j)
section LKS
variable {G : mj_G} {M M' M1 : mj_M} {m s bf rw_ : Nat} {Q : mj_P}
theorem lk_B.fr {W : List (Nat × Nat × Nat)} (h : lk_B G m s bf rw_ M M1) (gm : G m = (1012, 0)) (gs : G s = (51100, 537)) (gf : G bf = (64100, 135)) (I : ab_Inv G M') (f : ab_frm W G M1 M') (cW : ∀ q ∈ W, q.1 ≠ 64100 ∧ (q.1 ≠ 51100 ∨ (221 ≤ q.2.1 ∧ q.2.2 < 356)) ∧ (q.1 ≠ 1012 ∨ (29 ≤ q.2.1 ∧ q.2.2 ≤ 31))) : lk_B G m s bf rw_ M M' := by
  obtain ⟨-, h6, h45, h48, hb, hs⟩ := h
  have fm : ∀ k, k < 29 ∨ 31 < k → M'.2.2 m k = M1.2.2 m k := fun k hk => (f m k (by rw [gm]; rintro ⟨r, hr, e1, e2, e3⟩; have := (cW r hr).2.2; omega)).2
  exact ⟨I, (fm 6 (by decide)).trans h6, (fm 45 (by decide)).trans h45, (fm 48 (by decide)).trans h48, fun k hk => (f bf k (by rw [gf]; rintro ⟨r, hr, e1, e2, e3⟩; exact (cW r hr).1 e1)).1.trans (hb k hk), fun j hj => (f s j (by rw [gs]; rintro ⟨r, hr, e1, e2, e3⟩; have := (cW r hr).2.1; omega)).1.trans (hs j hj)⟩
theorem lk_B.pm (h : lk_B G m s bf rw_ M M1) (gm : G m = (1012, 0)) (gs : G s = (51100, 537)) (gf : G bf = (64100, 135)) {k : Nat} {v : Int} (hv : (ab_rg 1012 k).1 ≤ v ∧ v ≤ (ab_rg 1012 k).2) : lk_B G m s bf rw_ M (mj_p0 M1 m k v) := ⟨h.1.p0 (by rw [gm]; exact hv), h.2.1, h.2.2.1, h.2.2.2.1, fun j hj => (congrFun (wz_c (hn_ne gf gm (by decide))) j).trans (h.2.2.2.2.1 j hj), fun j hj => (congrFun (wz_c (hn_ne gs gm (by decide))) j).trans (h.2.2.2.2.2 j hj)⟩
theorem lk_B.pr (h : lk_B G m s bf rw_ M M1) (gr : G rw_ = (66100, 120)) (gs : G s = (51100, 537)) (gf : G bf = (64100, 135)) {k : Nat} {v : Int} (hv : (ab_rg 66100 k).1 ≤ v ∧ v ≤ (ab_rg 66100 k).2) : lk_B G m s bf rw_ M (mj_p0 M1 rw_ k v) := ⟨h.1.p0 (by rw [gr]; exact hv), h.2.1, h.2.2.1, h.2.2.2.1, fun j hj => (congrFun (wz_c (hn_ne gf gr (by decide))) j).trans (h.2.2.2.2.1 j hj), fun j hj => (congrFun (wz_c (hn_ne gs gr (by decide))) j).trans (h.2.2.2.2.2 j hj)⟩
theorem r_areLevels {dd : Nat} {z : Int} (hd : ab_h cd_155 ≤ dd) (hI : ab_Inv G M) (gm : G m = (1012, 0)) (hz : 0 ≤ z ∧ z ≤ 400) (hQ : ∀ z' M', ab_Inv G M' → ab_frm (ab_w cd_155) G M M' → Q (some (.inl z')) G M') : mj_R mj_tab (dd + 1) 160 [.inr (.inr (some m)), .inl z] G M Q := by
  refine ab_all_ok 223 (Nat.le_refl _) 164 (by decide) dd hd G M (1, hn_g [z], 1, fun _ => some m) _ Q (hn_Y1 hz) (lw_RR gm (by decide) (by decide) (by decide)) (fun e he => by cases he) ⟨_, _, rfl, ⟨Nat.zero_lt_one, rfl⟩, _, _, rfl, ⟨_, rfl, hn_I (Nat.le_of_ble_eq_true rfl) rfl⟩, rfl⟩ hI (fun r M' i f ⟨po, hpo, h⟩ => ?_)
  obtain ⟨z', rfl⟩ := lw_r (List.all_eq_true.mp (by decide +kernel : (ab_o cd_155).all (fun po => lw_ii po.1) = true) po hpo) h
  exact hQ z' M' i f
theorem lk_mul {a b : Int} (a0 : 0 ≤ a) (a1 : a ≤ 17) (b0 : 0 ≤ b) (b1 : b ≤ 12) : 0 ≤ a * b ∧ a * b ≤ 204 := by
  have h1 : 0 ≤ a * b := Int.mul_nonneg a0 b0
  have h2 : a * b ≤ 17 * 12 := Int.mul_le_mul a1 b1 b0 (by decide)
  exact ⟨h1, by omega⟩
theorem lk_mul2 {a b : Int} (a0 : 0 ≤ a) : b ≤ 0 ∨ a ≤ a * b := by
  by_cases h : b ≤ 0
  · exact Or.inl h
  · have q : a * 1 ≤ a * b := Int.mul_le_mul_of_nonneg_left (by omega) a0
    rw [Int.mul_one] at q
    exact Or.inr q
end LKS
theorem r_lk1 {G : mj_G} {M : mj_M} {m bt : Nat} {Q : mj_P} {n1 n2 : Int} (gm : G m = (1012, 0)) (gbt : G bt = (50101, 940)) (m1 : M.2.2 m 1 = some bt) (a1 : 1 ≤ n1) (a2 : n1 ≤ 17) (b1 : 1 ≤ n2) (b2 : n2 ≤ 12) (h0 : Q (some (.inl (-1))) G M) (h : ∀ cb sb, wz 39 mt_X12_leaks.2.2.2.2.1 Q (mt_X12_leaks.2.2.2.2.1.drop 71) [some (.inr (.inr (some m))), some (.inl n1), some (.inl n2), some (.inl n2), none, none, none] [] G M cb sb) : ∀ (f : Nat) (i : Int) (cb sb : Nat), i + f = n2 → 0 ≤ i → wz 39 mt_X12_leaks.2.2.2.2.1 Q (mt_X12_leaks.2.2.2.2.1.drop 42) [some (.inr (.inr (some m))), some (.inl n1), some (.inl n2), some (.inl i), none, none, none] [] G M cb sb := by
  intro f
  induction f with
  | zero =>
    intro i cb sb e i0
    obtain rfl : n2 = i := by omega
    refine w_iln rfl ?_
    refine w_iln rfl ?_
    refine w_cmge (fun c1 => ?_) (fun c1 => ?_)
    · skip
      exact h _ _
    · exfalso; omega
  | succ f ih =>
    intro i cb sb e i0
    refine w_iln rfl ?_
    refine w_iln rfl ?_
    refine w_cmge (fun c1 => ?_) (fun c1 => ?_)
    · exfalso; omega
    · skip
      refine w_aln rfl ?_
      refine w_iln rfl ?_
      refine w_iln rfl ?_
      have hq2 : 0 ≤ n1 * i ∧ n1 * i ≤ 204 := lk_mul (by omega) (by omega) (by omega) (by omega)
      have hq2b := lk_mul2 (a := n1) (b := i) (by omega)
      refine w_mul ⟨by show (-2147483648 : Int) ≤ n1 * i; omega, by show n1 * i < (2147483648 : Int); omega⟩ ?_
      refine w_cv (st := []) rfl gm rfl (Nat.le_of_ble_eq_true rfl) (fun kk h => h) ⟨Nat.le_of_ble_eq_true rfl, ?_⟩
      show wz (38) mt_X12_octet.2.2.2.2.1 _ mt_X12_octet.2.2.2.2.1 [some (.inr (.inr (some m))), some (.inl (n1 * i))] [] _ _ _ _
      refine w_aln rfl ?_
      refine w_gr gm rfl (by decide) rfl (m1) ?_
      refine w_iln rfl ?_
      refine w_bald (v := (M.1 bt (n1 * i).toNat)) gbt rfl (by show (0 : Int) ≤ n1 * i; omega) (by show n1 * i < ((940 : Nat) : Int); omega) (rfl) ?_
      refine w_sp ?_
      refine w_and ?_
      intro z3 hz3 ez3
      refine w_iret (fun q => by cases q) ?_
      refine w_cs (st := []) rfl (Nat.le_of_ble_eq_true rfl) (fun kk h => h) ⟨Nat.le_of_ble_eq_true rfl, ?_⟩
      show wz (38) mt_X12_isMonth.2.2.2.2.1 _ mt_X12_isMonth.2.2.2.2.1 [some (.inl z3)] [] _ _ _ _
      refine w_iln rfl ?_
      refine w_ic ?_
      refine w_bp ?_
      refine w_cs (st := []) rfl (Nat.le_of_ble_eq_true rfl) (fun kk h => h) ⟨Nat.le_of_ble_eq_true rfl, ?_⟩
      show wz (37) mt_X12_isIn.2.2.2.2.1 _ mt_X12_isIn.2.2.2.2.1 [some (.inl z3), some (.inl 0), some (.inl 11)] [] _ _ _ _
      refine w_iln rfl ?_
      refine w_iln rfl ?_
      refine w_cmlt (fun c4 => ?_) (fun c4 => ?_)
      · skip
        refine w_ic ?_
        refine w_iret (fun _ => Or.inl rfl) ?_
        refine w_iret (fun _ => Or.inl rfl) ?_
        refine w_ifeq (fun c5 => ?_) (fun c5 => ?_)
        · skip
          refine w_ic ?_
          exact w_iret (fun q => by cases q) h0
        · exfalso; omega
      · skip
        refine w_iln rfl ?_
        refine w_iln rfl ?_
        refine w_cmgt (fun c6 => ?_) (fun c6 => ?_)
        · skip
          refine w_ic ?_
          refine w_iret (fun _ => Or.inl rfl) ?_
          refine w_iret (fun _ => Or.inl rfl) ?_
          refine w_ifeq (fun c7 => ?_) (fun c7 => ?_)
          · skip
            refine w_ic ?_
            exact w_iret (fun q => by cases q) h0
          · exfalso; omega
        · skip
          refine w_ic ?_
          refine w_goto ?_
          refine w_iret (fun _ => Or.inr rfl) ?_
          refine w_iret (fun _ => Or.inr rfl) ?_
          refine w_ifeq (fun c8 => ?_) (fun c8 => ?_)
          · exfalso; omega
          · skip
            refine w_iln rfl ?_
            refine w_ifle (fun c9 => ?_) (fun c9 => ?_)
            · skip
              refine w_ii rfl ⟨by show (-2147483648 : Int) ≤ i + 1; omega, by show i + 1 < (2147483648 : Int); omega⟩ ?_
              show wz _ _ _ _ [some (.inr (.inr (some m))), some (.inl n1), some (.inl n2), some (.inl (i + 1)), none, none, none] _ _ _ _ _
              refine w_goto ?_
              exact ih (i + 1) _ _ (by omega) (by omega)
            · skip
              refine w_aln rfl ?_
              refine w_iln rfl ?_
              refine w_iln rfl ?_
              have hq10 : 0 ≤ n1 * i ∧ n1 * i ≤ 204 := lk_mul (by omega) (by omega) (by omega) (by omega)
              have hq10b := lk_mul2 (a := n1) (b := i) (by omega)
              refine w_mul ⟨by show (-2147483648 : Int) ≤ n1 * i; omega, by show n1 * i < (2147483648 : Int); omega⟩ ?_
              refine w_cv (st := []) rfl gm rfl (Nat.le_of_ble_eq_true rfl) (fun kk h => h) ⟨Nat.le_of_ble_eq_true rfl, ?_⟩
              show wz (38) mt_X12_octet.2.2.2.2.1 _ mt_X12_octet.2.2.2.2.1 [some (.inr (.inr (some m))), some (.inl (n1 * i))] [] _ _ _ _
              refine w_aln rfl ?_
              refine w_gr gm rfl (by decide) rfl (m1) ?_
              refine w_iln rfl ?_
              refine w_bald (v := (M.1 bt (n1 * i).toNat)) gbt rfl (by show (0 : Int) ≤ n1 * i; omega) (by show n1 * i < ((940 : Nat) : Int); omega) (rfl) ?_
              refine w_sp ?_
              refine w_and ?_
              intro z11 hz11 ez11
              refine w_iret (fun q => by cases q) ?_
              refine w_aln rfl ?_
              refine w_iln rfl ?_
              refine w_iln rfl ?_
              have hq12 : 0 ≤ n1 * i ∧ n1 * i ≤ 204 := lk_mul (by omega) (by omega) (by omega) (by omega)
              have hq12b := lk_mul2 (a := n1) (b := i) (by omega)
              refine w_mul ⟨by show (-2147483648 : Int) ≤ n1 * i; omega, by show n1 * i < (2147483648 : Int); omega⟩ ?_
              refine w_iln rfl ?_
              refine w_sub ⟨by show (-2147483648 : Int) ≤ (n1 * i) - n1; omega, by show (n1 * i) - n1 < (2147483648 : Int); omega⟩ ?_
              refine w_cv (st := [.inl z11]) rfl gm rfl (Nat.le_of_ble_eq_true rfl) (fun kk h => h) ⟨Nat.le_of_ble_eq_true rfl, ?_⟩
              show wz (38) mt_X12_octet.2.2.2.2.1 _ mt_X12_octet.2.2.2.2.1 [some (.inr (.inr (some m))), some (.inl ((n1 * i) - n1))] [] _ _ _ _
              refine w_aln rfl ?_
              refine w_gr gm rfl (by decide) rfl (m1) ?_
              refine w_iln rfl ?_
              refine w_bald (v := (M.1 bt ((n1 * i) - n1).toNat)) gbt rfl (by show (0 : Int) ≤ (n1 * i) - n1; omega) (by show (n1 * i) - n1 < ((940 : Nat) : Int); omega) (rfl) ?_
              refine w_sp ?_
              refine w_and ?_
              intro z13 hz13 ez13
              refine w_iret (fun q => by cases q) ?_
              refine w_cmgt (fun c14 => ?_) (fun c14 => ?_)
              · skip
                refine w_ii rfl ⟨by show (-2147483648 : Int) ≤ i + 1; omega, by show i + 1 < (2147483648 : Int); omega⟩ ?_
                show wz _ _ _ _ [some (.inr (.inr (some m))), some (.inl n1), some (.inl n2), some (.inl (i + 1)), none, none, none] _ _ _ _ _
                refine w_goto ?_
                exact ih (i + 1) _ _ (by omega) (by omega)
              · skip
                refine w_ic ?_
                exact w_iret (fun q => by cases q) h0
theorem r_lk4 {G : mj_G} {M0 : mj_M} {m s bf rw_ : Nat} {Q : mj_P} {n1 n2 : Int} {H0 : Int} (gm : G m = (1012, 0)) (gs : G s = (51100, 537)) (gf : G bf = (64100, 135)) (gr : G rw_ = (66100, 120)) (e0 : M0.1 s 0 = H0) (b0 : 0 ≤ H0 ∧ H0 ≤ 8) (n20 : 0 ≤ n2 ∧ n2 ≤ 400) {t k : Int} (t0 : 0 ≤ t) (t1 : t < H0) (k0 : 0 ≤ k) (k1 : k ≤ 11) : ∀ (f : Nat) (j c : Int) (M : mj_M) (cb sb : Nat), j + f = 10 → 1 ≤ j → 0 ≤ c → c + 9 ≤ 900 + j → lk_B G m s bf rw_ M0 M → (∀ c' M' j' cb sb, c ≤ c' → c' + j ≤ c + 10 → lk_B G m s bf rw_ M0 M' → wz 39 mt_X12_leaks.2.2.2.2.1 Q (mt_X12_leaks.2.2.2.2.1.drop 152) [some (.inr (.inr (some m))), some (.inl n1), some (.inl n2), some (.inl c'), some (.inl t), some (.inl k), j'] [] G M' cb sb) → wz 39 mt_X12_leaks.2.2.2.2.1 Q (mt_X12_leaks.2.2.2.2.1.drop 93) [some (.inr (.inr (some m))), some (.inl n1), some (.inl n2), some (.inl c), some (.inl t), some (.inl k), some (.inl j)] [] G M cb sb := by
  intro f
  induction f with
  | zero =>
    intro j c M cb sb e j0 c0 c1 hB h
    refine w_il rfl ?_
    refine w_bp ?_
    refine w_cmge (fun q => ?_) (fun q => by exfalso; omega)
    exact h c M _ _ _ (Int.le_refl c) (by omega) hB
  | succ f ih =>
    intro j c M cb sb e j0 c0 c1 hB h
    refine w_il rfl ?_
    refine w_bp ?_
    refine w_cmge (fun q => by exfalso; omega) (fun q => ?_)
    have h1 := hB.pm (k := 32) (v := t) gm gs gf ⟨by show (-2147483648 : Int) ≤ t; omega, by show t ≤ (2147483647 : Int); omega⟩
    have h2 := h1.pm (k := 33) (v := k) gm gs gf ⟨by show (-2147483648 : Int) ≤ k; omega, by show k ≤ (2147483647 : Int); omega⟩
    have h3 := h2.pm (k := 34) (v := j) gm gs gf ⟨by show (-2147483648 : Int) ≤ j; omega, by show j ≤ (2147483647 : Int); omega⟩
    refine w_aln rfl ?_
    refine w_il rfl ?_
    refine w_pi gm rfl (by decide) rfl (fun q => by cases q) ?_
    refine w_aln rfl ?_
    refine w_il rfl ?_
    refine w_pi gm rfl (by decide) rfl (fun q => by cases q) ?_
    refine w_aln rfl ?_
    refine w_il rfl ?_
    refine w_pi gm rfl (by decide) rfl (fun q => by cases q) ?_
    refine w_aln rfl ?_
    refine w_iln rfl ?_
    refine w_cv (st := []) rfl gm rfl (Nat.le_of_ble_eq_true rfl) (fun kk h => h) (r_areLevels (dd := 38) (by decide +kernel) h3.1 gm n20 (fun z1 M1 I1 f1 => ?_))
    have h4 := h3.fr gm gs gf I1 f1 (by decide +kernel)
    have next : ∀ (c' : Int) (M' : mj_M) (cb sb : Nat), c ≤ c' → c' ≤ c + 1 → lk_B G m s bf rw_ M0 M' → wz 39 mt_X12_leaks.2.2.2.2.1 Q (mt_X12_leaks.2.2.2.2.1.drop 150) [some (.inr (.inr (some m))), some (.inl n1), some (.inl n2), some (.inl c'), some (.inl t), some (.inl k), some (.inl j)] [] G M' cb sb := fun c' M' cb sb q1 q2 hB' => by
      refine w_ii rfl ⟨by omega, by omega⟩ ?_
      refine w_goto ?_
      exact ih (j + 1) c' M' _ _ (by omega) (by omega) (by omega) (by omega) hB' (fun c2 M2 j2 cb sb g1 g2 g3 => h c2 M2 j2 cb sb (by omega) (by omega) g3)
    refine w_ifne (fun q1 => ?_) (fun q1 => ?_)
    · refine w_ii rfl ⟨by omega, by omega⟩ ?_
      have r49 : 0 ≤ M1.1 m 49 ∧ M1.1 m 49 ≤ 40 := by have q := h4.1.1 m 49; rw [gm] at q; exact q
      refine w_aln rfl ?_
      refine w_gi (v := M1.1 m 49) gm rfl (by decide) rfl rfl ?_
      refine w_bp ?_
      refine w_cmne (fun q2 => ?_) (fun q2 => ?_)
      · generalize ev : M1.1 m 49 = v49 at r49 q2
        refine w_aln rfl ?_
        refine w_gr gm rfl (by decide) rfl h4.2.2.2.1 ?_
        refine w_ic ?_
        refine w_aln rfl ?_
        refine w_gi gm rfl (by decide) rfl ev ?_
        refine w_mul ⟨by omega, by omega⟩ ?_
        refine w_il rfl ?_
        refine w_iast gr rfl (by decide) (by omega) (by show 3 * v49 < ((120 : Nat) : Int); omega) ?_
        have h5 := h4.pr (k := (3 * v49).toNat) (v := t) gr gs gf ⟨by show (-2147483648 : Int) ≤ t; omega, by show t ≤ (2147483647 : Int); omega⟩
        have nrm : m ≠ rw_ := hn_ne gm gr (by decide)
        refine w_aln rfl ?_
        refine w_gr gm rfl (by decide) rfl h5.2.2.2.1 ?_
        refine w_ic ?_
        refine w_aln rfl ?_
        refine w_gi gm rfl (by decide) rfl ((congrFun (wz_c nrm) 49).trans ev) ?_
        refine w_mul ⟨by omega, by omega⟩ ?_
        refine w_ic ?_
        refine w_add ⟨by omega, by omega⟩ ?_
        refine w_il rfl ?_
        refine w_iast gr rfl (by decide) (by omega) (by show 3 * v49 + 1 < ((120 : Nat) : Int); omega) ?_
        have h6 := h5.pr (k := (3 * v49 + 1).toNat) (v := k) gr gs gf ⟨by show (-2147483648 : Int) ≤ k; omega, by show k ≤ (2147483647 : Int); omega⟩
        refine w_aln rfl ?_
        refine w_gr gm rfl (by decide) rfl h6.2.2.2.1 ?_
        refine w_ic ?_
        refine w_aln rfl ?_
        refine w_gi gm rfl (by decide) rfl ((congrFun (wz_c nrm) 49).trans ((congrFun (wz_c nrm) 49).trans ev)) ?_
        refine w_mul ⟨by omega, by omega⟩ ?_
        refine w_ic ?_
        refine w_add ⟨by omega, by omega⟩ ?_
        refine w_il rfl ?_
        refine w_iast gr rfl (by decide) (by omega) (by show 3 * v49 + 2 < ((120 : Nat) : Int); omega) ?_
        have h7 := h6.pr (k := (3 * v49 + 2).toNat) (v := j) gr gs gf ⟨by show (-2147483648 : Int) ≤ j; omega, by show j ≤ (2147483647 : Int); omega⟩
        refine w_aln rfl ?_
        refine w_dupr ?_
        refine w_gi gm rfl (by decide) rfl ((congrFun (wz_c nrm) 49).trans ((congrFun (wz_c nrm) 49).trans ((congrFun (wz_c nrm) 49).trans ev))) ?_
        refine w_ic ?_
        refine w_add ⟨by omega, by omega⟩ ?_
        refine w_pi gm rfl (by decide) rfl (fun q => by cases q) ?_
        exact next (c + 1) _ _ _ (by omega) (by omega) (h7.pm (k := 49) (v := v49 + 1) gm gs gf ⟨by show (0 : Int) ≤ v49 + 1; omega, by show v49 + 1 ≤ (40 : Int); omega⟩)
      · refine w_goto ?_
        exact next (c + 1) M1 _ _ (by omega) (by omega) h4
    · refine w_goto ?_
      exact next c M1 _ _ (by omega) (by omega) h4
theorem r_lk3 {G : mj_G} {M0 : mj_M} {m s bf rw_ : Nat} {Q : mj_P} {n1 n2 : Int} {H0 : Int} (gm : G m = (1012, 0)) (gs : G s = (51100, 537)) (gf : G bf = (64100, 135)) (gr : G rw_ = (66100, 120)) (e0 : M0.1 s 0 = H0) (b0 : 0 ≤ H0 ∧ H0 ≤ 8) (n20 : 0 ≤ n2 ∧ n2 ≤ 400) {t : Int} (t0 : 0 ≤ t) (t1 : t < H0) : ∀ (f : Nat) (k c : Int) (M : mj_M) (v6 : Option mj_V) (cb sb : Nat), k + f = 12 → 0 ≤ k → 0 ≤ c → c ≤ 108 * t + 9 * k → lk_B G m s bf rw_ M0 M → (∀ c' M' v5 v6 cb sb, 0 ≤ c' → c' ≤ 108 * t + 108 → lk_B G m s bf rw_ M0 M' → wz 39 mt_X12_leaks.2.2.2.2.1 Q (mt_X12_leaks.2.2.2.2.1.drop 154) [some (.inr (.inr (some m))), some (.inl n1), some (.inl n2), some (.inl c'), some (.inl t), v5, v6] [] G M' cb sb) → wz 39 mt_X12_leaks.2.2.2.2.1 Q (mt_X12_leaks.2.2.2.2.1.drop 88) [some (.inr (.inr (some m))), some (.inl n1), some (.inl n2), some (.inl c), some (.inl t), some (.inl k), v6] [] G M cb sb := by
  intro f
  induction f with
  | zero =>
    intro k c M v6 cb sb e k0 c0 c1 hB h
    refine w_il rfl ?_
    refine w_bp ?_
    refine w_cmge (fun q => ?_) (fun q => by exfalso; omega)
    exact h c M _ _ _ _ c0 (by omega) hB
  | succ f ih =>
    intro k c M v6 cb sb e k0 c0 c1 hB h
    refine w_il rfl ?_
    refine w_bp ?_
    refine w_cmge (fun q => by exfalso; omega) (fun q => ?_)
    refine w_ic ?_
    refine w_is ?_
    refine r_lk4 gm gs gf gr e0 b0 n20 t0 t1 k0 (by omega) 9 1 c M _ _ (by decide) (by decide) c0 (by omega) hB (fun c' M' j' cb sb g1 g2 hB' => ?_)
    refine w_ii rfl ⟨by omega, by omega⟩ ?_
    refine w_goto ?_
    exact ih (k + 1) c' M' _ _ _ (by omega) (by omega) (by omega) (by omega) hB' h
theorem r_lk2 {G : mj_G} {M0 : mj_M} {m s bf rw_ : Nat} {Q : mj_P} {n1 n2 : Int} {H0 : Int} (gm : G m = (1012, 0)) (gs : G s = (51100, 537)) (gf : G bf = (64100, 135)) (gr : G rw_ = (66100, 120)) (e0 : M0.1 s 0 = H0) (b0 : 0 ≤ H0 ∧ H0 ≤ 8) (n20 : 0 ≤ n2 ∧ n2 ≤ 400) (m6 : M0.2.2 m 6 = some s) : ∀ (f : Nat) (t c : Int) (M : mj_M) (v5 v6 : Option mj_V) (cb sb : Nat), t + f = H0 → 0 ≤ t → 0 ≤ c → c ≤ 108 * t → lk_B G m s bf rw_ M0 M → (∀ c' M' v4 v5 v6 cb sb, lk_B G m s bf rw_ M0 M' → wz 39 mt_X12_leaks.2.2.2.2.1 Q (mt_X12_leaks.2.2.2.2.1.drop 156) [some (.inr (.inr (some m))), some (.inl n1), some (.inl n2), some (.inl c'), v4, v5, v6] [] G M' cb sb) → wz 39 mt_X12_leaks.2.2.2.2.1 Q (mt_X12_leaks.2.2.2.2.1.drop 80) [some (.inr (.inr (some m))), some (.inl n1), some (.inl n2), some (.inl c), some (.inl t), v5, v6] [] G M cb sb := by
  intro f
  induction f with
  | zero =>
    intro t c M v5 v6 cb sb e t0 c0 c1 hB h
    refine w_il rfl ?_
    refine w_aln rfl ?_
    refine w_gr gm rfl (by decide) rfl hB.2.1 ?_
    refine w_ic ?_
    refine w_iald (v := H0) gs rfl (by decide) (by decide) ((hB.2.2.2.2.2 0 (Or.inl (by decide))).trans e0) ?_
    refine w_cmge (fun q => ?_) (fun q => by exfalso; omega)
    exact h c M _ _ _ _ _ hB
  | succ f ih =>
    intro t c M v5 v6 cb sb e t0 c0 c1 hB h
    refine w_il rfl ?_
    refine w_aln rfl ?_
    refine w_gr gm rfl (by decide) rfl hB.2.1 ?_
    refine w_ic ?_
    refine w_iald (v := H0) gs rfl (by decide) (by decide) ((hB.2.2.2.2.2 0 (Or.inl (by decide))).trans e0) ?_
    refine w_cmge (fun q => by exfalso; omega) (fun q => ?_)
    refine w_ic ?_
    refine w_is ?_
    refine r_lk3 gm gs gf gr e0 b0 n20 t0 (by omega) 12 0 c M v6 _ _ (by decide) (by decide) c0 (by omega) hB (fun c' M' v5 v6 cb sb g1 g2 hB' => ?_)
    refine w_ii rfl ⟨by omega, by omega⟩ ?_
    refine w_goto ?_
    exact ih (t + 1) c' M' _ _ _ _ (by omega) (by omega) g1 (by omega) hB' h
set_option maxRecDepth 100000 in
theorem r_X12_leaksY {G : mj_G} {M : mj_M} {m s : Nat} {Q : mj_P} (hI : ab_Inv G M) (gm : G m = (1012, 0)) (gs : G s = (51100, 537)) (m6 : M.2.2 m 6 = some s) (b0 : 0 ≤ M.1 s 0 ∧ M.1 s 0 ≤ 8) (h32 : M.1 m 32 = -1) (h : ∀ z M', (∀ j, j < 537 → M'.1 s j = M.1 s j) → M'.1 m 32 = -1 → Q (some (.inl z)) G M') : mj_R mj_tab 40 210 [.inr (.inr (some m))] G M Q := by
  obtain ⟨bt, m1, gbt⟩ := hn_rf (k := 1) (q := (50101, 940)) hI gm rfl (by decide) (by decide) (by decide) (fun e => absurd e (by decide))
  obtain ⟨bf, m45, gf⟩ := hn_rf (k := 45) (q := (64100, 135)) hI gm rfl (by decide) (by decide) (by decide) (fun e => absurd e (by decide))
  obtain ⟨rw_, m48, gr⟩ := hn_rf (k := 48) (q := (66100, 120)) hI gm rfl (by decide) (by decide) (by decide) (fun e => absurd e (by decide))
  have sm : s ≠ m := hn_ne gs gm (by decide)
  have nbs : bf ≠ s := hn_ne gf gs (by decide)
  have nbm : bf ≠ m := hn_ne gf gm (by decide)
  have r2 : 0 ≤ M.1 m 2 ∧ M.1 m 2 ≤ 940 := by have q := hI.1 m 2; rw [gm] at q; exact q
  refine ⟨Nat.le_of_ble_eq_true rfl, ?_⟩
  show wz 39 mt_X12_leaks.2.2.2.2.1 Q mt_X12_leaks.2.2.2.2.1 [some (.inr (.inr (some m))), none, none, none, none, none, none] [] G M _ _
  refine w_aln rfl ?_
  refine w_ic ?_
  refine w_pi gm rfl (by decide) rfl (fun q => by cases q) ?_
  refine w_aln rfl ?_
  refine w_sp ?_
  refine w_cv (st := []) rfl gm rfl (Nat.le_of_ble_eq_true rfl) (fun kk h => h) ⟨Nat.le_of_ble_eq_true rfl, ?_⟩
  show wz 38 mt_X12_taken.2.2.2.2.1 _ mt_X12_taken.2.2.2.2.1 [some (.inr (.inr (some m))), some (.inl 940)] [] _ _ _ _
  refine w_aln rfl ?_
  refine w_aln rfl ?_
  refine w_gi gm rfl (by decide) rfl (v := M.1 m 2) (hn_n (Or.inr (by decide))) ?_
  refine w_pi gm rfl (by decide) rfl (fun q => by cases q) ?_
  refine w_aln rfl ?_
  refine w_ic ?_
  refine w_pi gm rfl (by decide) rfl (fun q => by cases q) ?_
  refine w_aln rfl ?_
  refine w_ic ?_
  refine w_pi gm rfl (by decide) rfl (fun q => by cases q) ?_
  refine w_aln rfl ?_
  refine w_iln rfl ?_
  refine w_pi gm rfl (by decide) rfl (fun q => by cases q) ?_
  refine w_ret ?_
  show wz 39 mt_X12_leaks.2.2.2.2.1 Q (mt_X12_leaks.2.2.2.2.1.drop 6) [some (.inr (.inr (some m))), none, none, none, none, none, none] [] G (mj_p0 (mj_p0 (mj_p0 (mj_p0 (mj_p0 M m 0 0) m 3 (M.1 m 2)) m 2 0) m 4 0) m 5 940) _ _
  have hA : lk_A m M (mj_p0 (mj_p0 (mj_p0 (mj_p0 (mj_p0 M m 0 0) m 3 (M.1 m 2)) m 2 0) m 4 0) m 5 940) := ⟨rfl, fun a ha => (wz_c ha).trans ((wz_c ha).trans ((wz_c ha).trans ((wz_c ha).trans (wz_c ha)))), (hn_n (Or.inr (by decide))).trans ((hn_n (Or.inr (by decide))).trans ((hn_n (Or.inr (by decide))).trans ((hn_n (Or.inr (by decide))).trans (hn_n (Or.inr (by decide)))))), (hn_n (Or.inr (by decide))).trans ((hn_n (Or.inr (by decide))).trans ((hn_n (Or.inr (by decide))).trans hn_s))⟩
  have hIA : ab_Inv G (mj_p0 (mj_p0 (mj_p0 (mj_p0 (mj_p0 M m 0 0) m 3 (M.1 m 2)) m 2 0) m 4 0) m 5 940) := ((((hI.p0 (by rw [gm]; exact ⟨by decide, by decide⟩)).p0 (by rw [gm]; exact r2)).p0 (by rw [gm]; exact ⟨by decide, by decide⟩)).p0 (by rw [gm]; exact ⟨by decide, by decide⟩)).p0 (by rw [gm]; exact ⟨by decide, by decide⟩)
  revert hA hIA
  generalize mj_p0 (mj_p0 (mj_p0 (mj_p0 (mj_p0 M m 0 0) m 3 (M.1 m 2)) m 2 0) m 4 0) m 5 940 = MA
  intro hA hIA
  have esA : MA.1 s = M.1 s := hA.2.1 s sm
  have none_ : Q (some (.inl (-1))) G MA := h _ _ (fun j _ => congrFun esA j) (hA.2.2.1.trans h32)
  refine w_ic ?_
  refine w_ic ?_
  refine w_aln rfl ?_
  refine w_gr gm rfl (by decide) rfl ((by rw [hA.1]; exact m6)) ?_
  refine w_ic ?_
  refine w_iald (v := (M.1 s 0)) gs rfl (by show (0 : Int) ≤ 0; omega) (by show 0 < ((537 : Nat) : Int); omega) (congrFun esA _) ?_
  refine w_mul ⟨by show (-2147483648 : Int) ≤ 2 * (M.1 s 0); omega, by show 2 * (M.1 s 0) < (2147483648 : Int); omega⟩ ?_
  refine w_add ⟨by show (-2147483648 : Int) ≤ 1 + (2 * (M.1 s 0)); omega, by show 1 + (2 * (M.1 s 0)) < (2147483648 : Int); omega⟩ ?_
  refine w_isn ?_
  show wz _ _ _ _ [some (.inr (.inr (some m))), some (.inl (1 + (2 * (M.1 s 0)))), none, none, none, none, none] _ _ _ _ _
  refine w_aln rfl ?_
  refine w_gr gm rfl (by decide) rfl ((by rw [hA.1]; exact m6)) ?_
  refine w_ic ?_
  refine w_iald (v := (M.1 s 0)) gs rfl (by show (0 : Int) ≤ 0; omega) (by show 0 < ((537 : Nat) : Int); omega) (congrFun esA _) ?_
  refine w_ifeq (fun c1 => ?_) (fun c1 => ?_)
  · skip
    refine w_ic ?_
    exact w_iret (fun q => by cases q) none_
  · skip
    refine w_aln rfl ?_
    refine w_gi gm rfl (by decide) rfl (hA.2.2.2) ?_
    refine w_iln rfl ?_
    refine w_rem (by omega) ?_
    intro z2 hz2 ez2
    refine w_ifne (fun c3 => ?_) (fun c3 => ?_)
    · skip
      refine w_ic ?_
      exact w_iret (fun q => by cases q) none_
    · skip
      refine w_aln rfl ?_
      refine w_gi gm rfl (by decide) rfl (hA.2.2.2) ?_
      refine w_iln rfl ?_
      refine w_div (by omega) ?_
      intro z4 hz4 ez4
      refine w_ic ?_
      refine w_bp ?_
      refine w_cs (st := []) rfl (Nat.le_of_ble_eq_true rfl) (fun kk h => h) ⟨Nat.le_of_ble_eq_true rfl, ?_⟩
      show wz (38) mt_X12_isIn.2.2.2.2.1 _ mt_X12_isIn.2.2.2.2.1 [some (.inl z4), some (.inl 1), some (.inl 12)] [] _ _ _ _
      refine w_iln rfl ?_
      refine w_iln rfl ?_
      refine w_cmlt (fun c5 => ?_) (fun c5 => ?_)
      · skip
        refine w_ic ?_
        refine w_iret (fun _ => Or.inl rfl) ?_
        refine w_ifne (fun c6 => ?_) (fun c6 => ?_)
        · exfalso; omega
        · skip
          refine w_ic ?_
          exact w_iret (fun q => by cases q) none_
      · skip
        refine w_iln rfl ?_
        refine w_iln rfl ?_
        refine w_cmgt (fun c7 => ?_) (fun c7 => ?_)
        · skip
          refine w_ic ?_
          refine w_iret (fun _ => Or.inl rfl) ?_
          refine w_ifne (fun c8 => ?_) (fun c8 => ?_)
          · exfalso; omega
          · skip
            refine w_ic ?_
            exact w_iret (fun q => by cases q) none_
        · skip
          refine w_ic ?_
          refine w_goto ?_
          refine w_iret (fun _ => Or.inr rfl) ?_
          refine w_ifne (fun c9 => ?_) (fun c9 => ?_)
          · skip
            refine w_aln rfl ?_
            refine w_gi gm rfl (by decide) rfl (hA.2.2.2) ?_
            refine w_iln rfl ?_
            refine w_div (by omega) ?_
            intro z10 hz10 ez10
            refine w_isn ?_
            show wz _ _ _ _ [some (.inr (.inr (some m))), some (.inl (1 + (2 * (M.1 s 0)))), some (.inl z10), none, none, none, none] _ _ _ _ _
            refine w_ic ?_
            refine w_isn ?_
            show wz _ _ _ _ [some (.inr (.inr (some m))), some (.inl (1 + (2 * (M.1 s 0)))), some (.inl z10), some (.inl 0), none, none, none] _ _ _ _ _
            have e9 : z10 = z4 := ez10.trans ez4.symm
            refine r_lk1 (n1 := 1 + (2 * (M.1 s 0))) (n2 := z10) gm gbt (by rw [hA.1]; exact m1) (by omega) (by omega) (by omega) (by omega) none_ (fun cb sb => ?_) (z10).toNat 0 _ _ (by omega) (by decide)
            refine w_aln rfl ?_
            refine w_cv (st := []) rfl gm rfl (Nat.le_of_ble_eq_true rfl) (fun kk h => h) (sn_and (by decide +kernel) (r_thinks (Q := fun r G' M' => r = none ∧ G' = G ∧ ab_Inv G M') (dd := 38) (by decide +kernel) hIA gm (fun M2 I2 f2 => ⟨rfl, rfl, I2⟩)) (r_X12_thinksC (Q := fun r G' M' => M'.2 = MA.2 ∧ (∀ a, a ≠ bf → M'.1 a = MA.1 a) ∧ ∀ k, k < 135 → M'.1 bf k = MA.1 s (221 + k)) (M0 := MA) (d := 37) gm gs gf (by rw [hA.1]; exact m6) (by rw [hA.1]; exact m45) (fun M2 t1 t2 t3 => ⟨t1, t2, t3⟩)) (fun r G' M2 q1 q2 => ?_))
            obtain ⟨rfl, rfl, I2⟩ := q1
            obtain ⟨t1, t2, t3⟩ := q2
            have hB : lk_B G' m s bf rw_ M M2 := ⟨I2, by rw [t1, hA.1]; exact m6, by rw [t1, hA.1]; exact m45, by rw [t1, hA.1]; exact m48, fun k hk => (t3 k hk).trans (congrFun esA _), fun j _ => (congrFun (t2 s nbs.symm) j).trans (congrFun esA j)⟩
            refine w_ic ?_
            refine w_isn ?_
            refine w_aln rfl ?_
            refine w_ic ?_
            refine w_pi gm rfl (by decide) rfl (fun q => by cases q) ?_
            refine w_ic ?_
            refine w_is ?_
            refine r_lk2 (H0 := M.1 s 0) gm gs gf gr rfl b0 ⟨by omega, by omega⟩ m6 (M.1 s 0).toNat 0 0 _ _ _ _ _ (by omega) (by decide) (by decide) (by decide) (hB.pm (k := 49) (v := 0) gm gs gf ⟨by decide, by decide⟩) (fun c' M3 v4 v5 v6 cb sb h3 => ?_)
            refine w_aln rfl ?_
            refine w_ic ?_
            refine w_pi gm rfl (by decide) rfl (fun q => by cases q) ?_
            have h4 := h3.pm (k := 32) (v := -1) gm gs gf ⟨by decide, by decide⟩
            refine w_aln rfl ?_
            refine w_cv (st := []) rfl gm rfl (Nat.le_of_ble_eq_true rfl) (fun kk h => h) (r_X12_forgetsC (M0 := mj_p0 M3 m 32 (-1)) (d := 37) gm gs gf h4.2.1 h4.2.2.1 (fun M4 f1 f2 f3 => ?_))
            refine w_iln rfl ?_
            refine w_iret (fun q => by cases q) (h c' M4 (fun j hj => ?_) ((congrFun (f2 m sm.symm) 32).trans hn_s))
            by_cases c : 221 ≤ j ∧ j < 356
            · rw [(f3 j hj).1 c, h4.2.2.2.2.1 (j - 221) (by omega), show 221 + (j - 221) = j by omega]
            · rw [(f3 j hj).2 (by omega)]; exact h4.2.2.2.2.2 j (by omega)
          · exfalso; omega
