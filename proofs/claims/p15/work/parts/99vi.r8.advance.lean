/-! ===== the class's advance (laid by a program) ===== -/
theorem rv_wl.p2 {G : mj_G} {M : mj_M} {tp j : Nat} {z : Option Nat} (h : rv_wl G M) (ht : G tp = (1008, 0)) : rv_wl G (mj_p2 M tp j z) := fun a ha k hk => by
  obtain ⟨w, w1, w2⟩ := h a ha k hk
  exact ⟨w, (wz_nr (Or.inl (fun e => by rw [e, ht] at ha; cases ha))).trans w1, w2⟩
/-- the token that a run of k bytes from q on is -/
def rv_rk (G : mj_G) (B : Nat → Int) (tp q k : Nat) (M' : mj_M) : Prop := (rv_nl B q k = k ∧ k ≤ 8 ∧ M'.1 tp 4 = 1 ∧ M'.2.1 tp 8 = rv_c5 B q k ∧ rv_wd G (rv_c5 B q k) (M'.2.2 tp 9)) ∨ (¬ (rv_nl B q k = k ∧ k ≤ 8) ∧ rv_nl B q k = 0 ∧ k ≤ 3 ∧ M'.1 tp 4 = 2 ∧ rv_nk B q k (M'.1 tp 6) ∧ M'.2.2 tp 9 = none) ∨ (¬ (rv_nl B q k = k ∧ k ≤ 8) ∧ ¬ (rv_nl B q k = 0 ∧ k ≤ 3) ∧ M'.1 tp 4 = 4 ∧ M'.2.2 tp 9 = none)
/-- what advance leaves, from p on, with n bytes of which e are read -/
def rv_adv (G : mj_G) (B : Nat → Int) (n e tp p q : Nat) (M M' : mj_M) : Prop := rv_o tp [4, 5, 6, 7, 11] M M' ∧ (∀ a j, ¬ (a = tp ∧ j = 8) → M'.2.1 a j = M.2.1 a j) ∧ (∀ a j, ¬ (a = tp ∧ j = 9) → M'.2.2 a j = M.2.2 a j) ∧
  ((e ≤ q ∧ M'.1 tp 4 = 0 ∧ M'.1 tp 5 = (e : Int) ∧ M'.1 tp 11 = (q : Int) ∧ M'.2.2 tp 9 = none) ∨ (q < e ∧ rv_an (B q) = true ∧ M'.1 tp 5 = (q : Int) ∧ ∃ k, rv_rn B n (n - q) q = q + k ∧ q + k ≤ n ∧ M'.1 tp 11 = ((q + k : Nat) : Int) ∧ rv_rk G B tp q k M') ∨ (q < e ∧ ¬ rv_an (B q) = true ∧ M'.1 tp 5 = (q : Int) ∧ M'.1 tp 4 = 3 ∧ M'.1 tp 7 = B q ∧ M'.1 tp 11 = ((q + 1 : Nat) : Int) ∧ M'.2.2 tp 9 = none))
theorem r_X7_advance {d tp bc n lim p : Nat} {B : Nat → Int} {G : mj_G} {M : mj_M} {Q : mj_P} (ht : G tp = (1008, 0)) (hb : G bc = (38101, 940)) (hn : n ≤ 940) (hlim : lim ≤ 940) (hw : rv_wl G M) (hp : p ≤ n) (f0 : M.2.2 tp 0 = some bc) (fs : M.1 tp 1 = (n : Int)) (fm : M.1 tp 10 = (lim : Int)) (fh : M.1 tp 11 = (p : Int)) (fb : ∀ k, rv_u8 (M.1 bc k) = B k) (hQ : ∀ M', rv_adv G B n (min n lim) tp p (rv_sk B (min n lim) (min n lim - p) p) M M' → Q none G M') : mj_R mj_tab (d + 3) 69 [.inr (.inr (some tp))] G M Q := by
  have ne : bc ≠ tp := hn_ne hb ht (by decide)
  refine ⟨Nat.le_of_ble_eq_true rfl, ?_⟩
  show wz (d + 2) mt_X7_advance.2.2.2.2.1 Q mt_X7_advance.2.2.2.2.1 [some (.inr (.inr (some tp))), none] [] G M _ _
  refine w_aln rfl ?_
  refine w_gi ht rfl (by decide) rfl fs ?_
  refine w_aln rfl ?_
  refine w_gi ht rfl (by decide) rfl fm ?_
  refine w_min (Nat.le_of_ble_eq_true rfl) (fun z m1 m2 => ?_)
  have ez : z = ((min n lim : Nat) : Int) := by
    by_cases c : (lim : Int) < (n : Int)
    · rw [m1 c]; omega
    · rw [m2 c]; omega
  subst ez
  refine w_isn ?_
  generalize he : min n lim = e at *
  have hen : e ≤ n := by omega
  refine r_adv1 (d := d + 1) (e := e) (B := B) ht hb hn hen (e - p) p M _ _ (by omega) f0 fs fh fb (fun M1 g1 g2 g3 => ?_)
  generalize hq : rv_sk B e (e - p) p = q at *
  have g22 : ∀ a j, M1.2.2 a j = M.2.2 a j := fun a j => by rw [g3]
  have g21 : ∀ a j, M1.2.1 a j = M.2.1 a j := fun a j => by rw [g3]
  have f01 : M1.2.2 tp 0 = some bc := (g22 tp 0).trans f0
  have fs1 : M1.1 tp 1 = (n : Int) := (g2 tp 1 (by rintro ⟨-, h⟩; revert h; decide)).trans fs
  have fb1 : ∀ k, rv_u8 (M1.1 bc k) = B k := fun k => by rw [g2 bc k (fun h => ne h.1)]; exact fb k
  have hw1 : rv_wl G M1 := by unfold rv_wl; rw [g3]; exact hw
  have o1 : rv_o tp [4, 5, 6, 7, 11] M M1 := g2.up (by decide)
  refine w_aln rfl ?_
  refine w_nu ?_
  refine w_pr ht rfl (by decide) rfl ?_
  refine w_aln rfl ?_
  refine w_lc ?_
  refine w_pl ht rfl (by decide) rfl ?_
  refine w_aln rfl ?_
  refine w_ic ?_
  refine w_pi ht rfl (by decide) rfl (fun q => by cases q) ?_
  refine w_aln rfl ?_
  refine w_ic ?_
  refine w_pi ht rfl (by decide) rfl (fun q => by cases q) ?_
  refine w_aln rfl ?_
  refine w_gi ht rfl (by decide) rfl ((hn_n (Or.inr (by decide))).trans ((hn_n (Or.inr (by decide))).trans (g1))) ?_
  refine w_iln rfl ?_
  refine w_cmlt (fun c1 => ?_) (fun c1 => ?_)
  · skip
    refine w_aln rfl ?_
    refine w_aln rfl ?_
    refine w_gi ht rfl (by decide) rfl ((hn_n (Or.inr (by decide))).trans ((hn_n (Or.inr (by decide))).trans (g1))) ?_
    refine w_pi ht rfl (by decide) rfl (fun q => by cases q) ?_
    refine w_aln rfl ?_
    refine w_aln rfl ?_
    refine w_gi ht rfl (by decide) rfl ((hn_n (Or.inr (by decide))).trans ((hn_n (Or.inr (by decide))).trans ((hn_n (Or.inr (by decide))).trans (g1)))) ?_
    refine w_cv (st := []) rfl ht rfl (Nat.le_of_ble_eq_true rfl) (fun kk h => h) (r_X7_valueAt (d := d + 1) (p := q) (B := B) ht hb hn ((wz_nr (Or.inr (by decide))).trans (f01)) ((hn_n (Or.inr (by decide))).trans ((hn_n (Or.inr (by decide))).trans ((hn_n (Or.inr (by decide))).trans (fs1)))) (fun j => Eq.trans (congrArg rv_u8 ((hn_n (Or.inl ne)).trans ((hn_n (Or.inl ne)).trans ((hn_n (Or.inl ne)))))) (fb1 j)) (fun c => ?_) (fun c => by exfalso; omega))
    · skip
      refine w_cs (st := []) rfl (Nat.le_of_ble_eq_true rfl) (fun kk h => h) (r_X7_isLetter (d := d + 1) (fun l1 l2 => ?_) (fun l0 => ?_))
      · skip
        refine w_ifne (fun c2 => ?_) (fun c2 => ?_)
        · skip
          refine w_aln rfl ?_
          refine w_cv (st := []) rfl ht rfl (Nat.le_of_ble_eq_true rfl) (fun kk h => h) (r_X7_readRun (d := d) (q := q) (B := B) ht hb hn (hw1.p2 ht) (by omega) ((wz_nr (Or.inr (by decide))).trans (f01)) ((hn_n (Or.inr (by decide))).trans ((hn_n (Or.inr (by decide))).trans ((hn_n (Or.inr (by decide))).trans (fs1)))) ((hn_n (Or.inr (by decide))).trans ((hn_n (Or.inr (by decide))).trans ((hn_n (Or.inr (by decide))).trans (g1)))) ((hn_n (Or.inr (by decide))).trans ((hn_n (Or.inr (by decide))).trans (hn_s))) wz_sl (fun j => Eq.trans (congrArg rv_u8 ((hn_n (Or.inl ne)).trans ((hn_n (Or.inl ne)).trans ((hn_n (Or.inl ne)))))) (fb1 j)) (fun k M2 r0 rn r => ?_))
          · skip
            refine w_goto ?_
            obtain ⟨r1, r2, r3, r4, r5⟩ := r
            refine w_ret (hQ M2 ⟨rv_o.tr (rv_o.tr (rv_o.tr (rv_o.tr o1 (rv_o.st (a := tp) (j := 6) (by decide))) (rv_o.st (a := tp) (j := 7) (by decide))) (rv_o.st (a := tp) (j := 5) (by decide))) (r2.up (by decide)), fun a j g => (r3 a j g).trans ((fun a j g => (wz_nl (Decidable.not_and_iff_or_not.mp g)).trans (g21 a j)) a j g), fun a j g => (r4 a j g).trans ((fun a j g => (wz_nr (Decidable.not_and_iff_or_not.mp g)).trans (g22 a j)) a j g), Or.inr (Or.inl ⟨by omega, rv_an_l l1 l2, (r2 tp 5 (by rintro ⟨-, h⟩; revert h; decide)).trans (hn_s), k, r0, rn, r1, ?_⟩)⟩)
            rcases r5 with r5 | ⟨u1, u2, u3, u4, u5, u6⟩ | ⟨u1, u2, u3, u4⟩
            · exact Or.inl r5
            · exact Or.inr (Or.inl ⟨u1, u2, u3, u4, u5, u6.trans wz_sr⟩)
            · exact Or.inr (Or.inr ⟨u1, u2, u3, u4.trans wz_sr⟩)
        · exfalso; omega
      · skip
        refine w_ifne (fun c3 => ?_) (fun c3 => ?_)
        · exfalso; omega
        · skip
          refine w_aln rfl ?_
          refine w_aln rfl ?_
          refine w_gi ht rfl (by decide) rfl ((hn_n (Or.inr (by decide))).trans ((hn_n (Or.inr (by decide))).trans ((hn_n (Or.inr (by decide))).trans (g1)))) ?_
          refine w_cv (st := []) rfl ht rfl (Nat.le_of_ble_eq_true rfl) (fun kk h => h) (r_X7_valueAt (d := d + 1) (p := q) (B := B) ht hb hn ((wz_nr (Or.inr (by decide))).trans (f01)) ((hn_n (Or.inr (by decide))).trans ((hn_n (Or.inr (by decide))).trans ((hn_n (Or.inr (by decide))).trans (fs1)))) (fun j => Eq.trans (congrArg rv_u8 ((hn_n (Or.inl ne)).trans ((hn_n (Or.inl ne)).trans ((hn_n (Or.inl ne)))))) (fb1 j)) (fun c => ?_) (fun c => by exfalso; omega))
          · skip
            refine w_cs (st := []) rfl (Nat.le_of_ble_eq_true rfl) (fun kk h => h) (r_X7_isDigit (d := d + 1) (fun d1 d2 => ?_) (fun d0 => ?_))
            · skip
              refine w_ifeq (fun c4 => ?_) (fun c4 => ?_)
              · exfalso; omega
              · skip
                refine w_aln rfl ?_
                refine w_cv (st := []) rfl ht rfl (Nat.le_of_ble_eq_true rfl) (fun kk h => h) (r_X7_readRun (d := d) (q := q) (B := B) ht hb hn (hw1.p2 ht) (by omega) ((wz_nr (Or.inr (by decide))).trans (f01)) ((hn_n (Or.inr (by decide))).trans ((hn_n (Or.inr (by decide))).trans ((hn_n (Or.inr (by decide))).trans (fs1)))) ((hn_n (Or.inr (by decide))).trans ((hn_n (Or.inr (by decide))).trans ((hn_n (Or.inr (by decide))).trans (g1)))) ((hn_n (Or.inr (by decide))).trans ((hn_n (Or.inr (by decide))).trans (hn_s))) wz_sl (fun j => Eq.trans (congrArg rv_u8 ((hn_n (Or.inl ne)).trans ((hn_n (Or.inl ne)).trans ((hn_n (Or.inl ne)))))) (fb1 j)) (fun k M2 r0 rn r => ?_))
                · skip
                  refine w_goto ?_
                  obtain ⟨r1, r2, r3, r4, r5⟩ := r
                  refine w_ret (hQ M2 ⟨rv_o.tr (rv_o.tr (rv_o.tr (rv_o.tr o1 (rv_o.st (a := tp) (j := 6) (by decide))) (rv_o.st (a := tp) (j := 7) (by decide))) (rv_o.st (a := tp) (j := 5) (by decide))) (r2.up (by decide)), fun a j g => (r3 a j g).trans ((fun a j g => (wz_nl (Decidable.not_and_iff_or_not.mp g)).trans (g21 a j)) a j g), fun a j g => (r4 a j g).trans ((fun a j g => (wz_nr (Decidable.not_and_iff_or_not.mp g)).trans (g22 a j)) a j g), Or.inr (Or.inl ⟨by omega, rv_an_d d1 d2, (r2 tp 5 (by rintro ⟨-, h⟩; revert h; decide)).trans (hn_s), k, r0, rn, r1, ?_⟩)⟩)
                  rcases r5 with r5 | ⟨u1, u2, u3, u4, u5, u6⟩ | ⟨u1, u2, u3, u4⟩
                  · exact Or.inl r5
                  · exact Or.inr (Or.inl ⟨u1, u2, u3, u4, u5, u6.trans wz_sr⟩)
                  · exact Or.inr (Or.inr ⟨u1, u2, u3, u4.trans wz_sr⟩)
            · skip
              refine w_ifeq (fun c5 => ?_) (fun c5 => ?_)
              · skip
                refine w_aln rfl ?_
                refine w_ic ?_
                refine w_pi ht rfl (by decide) rfl (fun q => by cases q) ?_
                refine w_aln rfl ?_
                refine w_aln rfl ?_
                refine w_aln rfl ?_
                refine w_gi ht rfl (by decide) rfl ((hn_n (Or.inr (by decide))).trans ((hn_n (Or.inr (by decide))).trans ((hn_n (Or.inr (by decide))).trans ((hn_n (Or.inr (by decide))).trans (g1))))) ?_
                refine w_cv (st := [.inr (.inr (some tp))]) rfl ht rfl (Nat.le_of_ble_eq_true rfl) (fun kk h => h) (r_X7_valueAt (d := d + 1) (p := q) (B := B) ht hb hn ((wz_nr (Or.inr (by decide))).trans (f01)) ((hn_n (Or.inr (by decide))).trans ((hn_n (Or.inr (by decide))).trans ((hn_n (Or.inr (by decide))).trans ((hn_n (Or.inr (by decide))).trans (fs1))))) (fun j => Eq.trans (congrArg rv_u8 ((hn_n (Or.inl ne)).trans ((hn_n (Or.inl ne)).trans ((hn_n (Or.inl ne)).trans ((hn_n (Or.inl ne))))))) (fb1 j)) (fun c => ?_) (fun c => by exfalso; omega))
                · skip
                  refine w_pi ht rfl (by decide) rfl (fun q => by cases q) ?_
                  refine w_aln rfl ?_
                  refine w_dupr ?_
                  refine w_gi ht rfl (by decide) rfl ((hn_n (Or.inr (by decide))).trans ((hn_n (Or.inr (by decide))).trans ((hn_n (Or.inr (by decide))).trans ((hn_n (Or.inr (by decide))).trans ((hn_n (Or.inr (by decide))).trans (g1)))))) ?_
                  refine w_ic ?_
                  refine w_add ⟨by show (-2147483648 : Int) ≤ (q : Int) + 1; omega, by show (q : Int) + 1 < (2147483648 : Int); omega⟩ ?_
                  refine w_pi ht rfl (by decide) rfl (fun q => by cases q) ?_
                  exact w_ret (hQ _ ⟨(rv_o.tr (rv_o.tr (rv_o.tr (rv_o.tr (rv_o.tr (rv_o.tr o1 (rv_o.st (a := tp) (j := 6) (by decide))) (rv_o.st (a := tp) (j := 7) (by decide))) (rv_o.st (a := tp) (j := 5) (by decide))) (rv_o.st (a := tp) (j := 4) (by decide))) (rv_o.st (a := tp) (j := 7) (by decide))) (rv_o.st (a := tp) (j := 11) (by decide))), (fun a j g => (wz_nl (Decidable.not_and_iff_or_not.mp g)).trans (g21 a j)), (fun a j g => (wz_nr (Decidable.not_and_iff_or_not.mp g)).trans (g22 a j)), Or.inr (Or.inr ⟨by omega, rv_an_n l0 d0, (hn_n (Or.inr (by decide))).trans ((hn_n (Or.inr (by decide))).trans ((hn_n (Or.inr (by decide))).trans (hn_s))), (hn_n (Or.inr (by decide))).trans ((hn_n (Or.inr (by decide))).trans (hn_s)), (hn_n (Or.inr (by decide))).trans (hn_s), (hn_s).trans (by omega), wz_sr⟩)⟩)
              · exfalso; omega
  · skip
    refine w_aln rfl ?_
    refine w_ic ?_
    refine w_pi ht rfl (by decide) rfl (fun q => by cases q) ?_
    refine w_aln rfl ?_
    refine w_iln rfl ?_
    refine w_pi ht rfl (by decide) rfl (fun q => by cases q) ?_
    exact w_ret (hQ _ ⟨(rv_o.tr (rv_o.tr (rv_o.tr (rv_o.tr o1 (rv_o.st (a := tp) (j := 6) (by decide))) (rv_o.st (a := tp) (j := 7) (by decide))) (rv_o.st (a := tp) (j := 4) (by decide))) (rv_o.st (a := tp) (j := 5) (by decide))), (fun a j g => (wz_nl (Decidable.not_and_iff_or_not.mp g)).trans (g21 a j)), (fun a j g => (wz_nr (Decidable.not_and_iff_or_not.mp g)).trans (g22 a j)), Or.inl ⟨by omega, (hn_n (Or.inr (by decide))).trans (hn_s), hn_s, (hn_n (Or.inr (by decide))).trans ((hn_n (Or.inr (by decide))).trans ((hn_n (Or.inr (by decide))).trans ((hn_n (Or.inr (by decide))).trans (g1)))), wz_sr⟩⟩)
