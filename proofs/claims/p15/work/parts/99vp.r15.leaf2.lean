/-! ===== what is read, as specs; leaf methods of the class (laid by a program) ===== -/
def rv_x (T : Nat → Nat × Nat × Int × List Int × Nat) (q : Nat) : Nat := (T q).2.2.2.2
def rv_pb (PL : Nat → Int) : Prop := 0 ≤ PL 4 ∧ PL 4 ≤ 8 ∧ 0 ≤ PL 5 ∧ PL 5 ≤ 40
def rv_AT (G : mj_G) (M0 : mj_M) (B : Nat → Int) (n lim tp bc pl na ta ba wa oa : Nat) (tr br : Nat → Nat) (T : Nat → Nat × Nat × Int × List Int × Nat) : Prop := rv_A G M0 B n lim tp bc pl na ta ba wa oa tr br ∧ T = rv_T B n lim
section SP
variable {T : Nat → Nat × Nat × Int × List Int × Nat} {lo hi : Int} {p : Nat} {Kf Kf' : Int → Nat → Prop}
/-- a number from lo to hi is read -/
def sp_num (T : Nat → Nat × Nat × Int × List Int × Nat) (lo hi : Int) (p : Nat) (Kf : Int → Nat → Prop) (Ko : Prop) : Prop := ((T p).1 = 2 → (lo ≤ (T p).2.2.1 → ((T p).2.2.1 ≤ hi → Ko) ∧ (¬ (T p).2.2.1 ≤ hi → Kf 2 (T p).2.1)) ∧ (¬ lo ≤ (T p).2.2.1 → Kf 2 (T p).2.1)) ∧ (¬ (T p).1 = 2 → Kf 1 (T p).2.1)
def sp_sgn (T : Nat → Nat × Nat × Int × List Int × Nat) (c : Int) (p : Nat) (Kf : Int → Nat → Prop) (Ko : Prop) : Prop := ((T p).1 = 3 → ((T p).2.2.1 = c → Ko) ∧ (¬ (T p).2.2.1 = c → Kf 1 (T p).2.1)) ∧ (¬ (T p).1 = 3 → Kf 1 (T p).2.1)
def sp_nam (T : Nat → Nat × Nat × Int × List Int × Nat) (p : Nat) (Kf : Int → Nat → Prop) (Ko : Prop) : Prop := ((T p).1 = 1 → (rv_nam (T p).2.2.2.1 → Ko) ∧ (¬ rv_nam (T p).2.2.2.1 → Kf 1 (T p).2.1)) ∧ (¬ (T p).1 = 1 → Kf 1 (T p).2.1)
def sp_find (nm : Nat → List Int) (k : Int) (w : List Int) (Ko : Int → Prop) : Prop := (∀ r : Nat, (r : Int) < k → nm r = w → (∀ j, j < r → nm j ≠ w) → Ko (r : Int)) ∧ ((∀ j : Nat, (j : Int) < k → nm j ≠ w) → Ko (-1))
theorem sp_num.mono {Ko Ko' : Prop} (h : sp_num T lo hi p Kf Ko) (hf : ∀ f a, Kf f a → Kf' f a) (ho : lo ≤ (T p).2.2.1 → (T p).2.2.1 ≤ hi → (T p).1 = 2 → Ko → Ko') : sp_num T lo hi p Kf' Ko' := ⟨fun a => ⟨fun b => ⟨fun c => ho b c a (((h.1 a).1 b).1 c), fun c => hf _ _ (((h.1 a).1 b).2 c)⟩, fun b => hf _ _ ((h.1 a).2 b)⟩, fun a => hf _ _ (h.2 a)⟩
theorem sp_sgn.mono {c : Int} {Ko Ko' : Prop} (h : sp_sgn T c p Kf Ko) (hf : ∀ f a, Kf f a → Kf' f a) (ho : (T p).1 = 3 → Ko → Ko') : sp_sgn T c p Kf' Ko' := ⟨fun a => ⟨fun b => ho a ((h.1 a).1 b), fun b => hf _ _ ((h.1 a).2 b)⟩, fun a => hf _ _ (h.2 a)⟩
theorem sp_nam.mono {Ko Ko' : Prop} (h : sp_nam T p Kf Ko) (hf : ∀ f a, Kf f a → Kf' f a) (ho : (T p).1 = 1 → rv_nam (T p).2.2.2.1 → Ko → Ko') : sp_nam T p Kf' Ko' := ⟨fun a => ⟨fun b => ho a b ((h.1 a).1 b), fun b => hf _ _ ((h.1 a).2 b)⟩, fun a => hf _ _ (h.2 a)⟩
theorem sp_find.mono {nm : Nat → List Int} {k : Int} {w : List Int} {Ko Ko' : Int → Prop} (h : sp_find nm k w Ko) (h1 : ∀ r : Nat, (r : Int) < k → nm r = w → (∀ j, j < r → nm j ≠ w) → Ko (r : Int) → Ko' (r : Int)) (h0 : (∀ j : Nat, (j : Int) < k → nm j ≠ w) → Ko (-1) → Ko' (-1)) : sp_find nm k w Ko' := ⟨fun r a b c => h1 r a b c (h.1 r a b c), fun a => h0 a (h.2 a)⟩
end SP
theorem rv_x_w {G : mj_G} {M0 : mj_M} {B : Nat → Int} {n lim tp bc pl na ta ba wa oa : Nat} {tr br : Nat → Nat} {T : Nat → Nat × Nat × Int × List Int × Nat} {q : Nat} (hA : rv_AT G M0 B n lim tp bc pl na ta ba wa oa tr br T) (h : q ≤ n) : rv_tw n q (T q) := by rw [hA.2]; exact rv_T_w h
theorem rv_x_le {G : mj_G} {M0 : mj_M} {B : Nat → Int} {n lim tp bc pl na ta ba wa oa : Nat} {tr br : Nat → Nat} {T : Nat → Nat × Nat × Int × List Int × Nat} {q : Nat} (hA : rv_AT G M0 B n lim tp bc pl na ta ba wa oa tr br T) (h : q ≤ n) : rv_x T q ≤ n := (rv_x_w hA h).2.2.2.2.2
theorem rv_x_ge {G : mj_G} {M0 : mj_M} {B : Nat → Int} {n lim tp bc pl na ta ba wa oa : Nat} {tr br : Nat → Nat} {T : Nat → Nat × Nat × Int × List Int × Nat} {q : Nat} (hA : rv_AT G M0 B n lim tp bc pl na ta ba wa oa tr br T) (h : q ≤ n) : q ≤ rv_x T q := (rv_x_w hA h).2.1
theorem rv_x_wo {G : mj_G} {M0 : mj_M} {B : Nat → Int} {n lim tp bc pl na ta ba wa oa : Nat} {tr br : Nat → Nat} {T : Nat → Nat × Nat × Int × List Int × Nat} {q : Nat} (hA : rv_AT G M0 B n lim tp bc pl na ta ba wa oa tr br T) (h : q ≤ n) (h1 : (T q).1 = 1) : rv_wo (T q).2.2.2.1 := (rv_x_w hA h).2.2.2.2.1 h1
theorem r_adv2 {G : mj_G} {M0 M : mj_M} {B : Nat → Int} {n lim tp bc pl na ta ba wa oa : Nat} {tr br : Nat → Nat} {T : Nat → Nat × Nat × Int × List Int × Nat} {PL WA OA : Nat → Int} {TO BI : Nat → Nat → Int} {nm : Nat → List Int} {Q : mj_P} {d q : Nat} (hA : rv_AT G M0 B n lim tp bc pl na ta ba wa oa tr br T) (h : rv_S G M0 n lim tp pl na wa oa tr br (T q) PL WA OA TO BI nm M) (hq : q ≤ n) (hQ : ∀ M', rv_S G M0 n lim tp pl na wa oa tr br (T (rv_x T q)) PL WA OA TO BI nm M' → Q none G M') : mj_R mj_tab (d + 3) 69 [.inr (.inr (some tp))] G M Q := r_adv hA.1 h rfl (rv_x_le hA hq) (fun M' h' => hQ M' (by rw [hA.2]; rw [hA.2] at h'; exact h'))
theorem r_X7_refuse {G : mj_G} {M0 M : mj_M} {B : Nat → Int} {n lim tp bc pl na ta ba wa oa : Nat} {tr br : Nat → Nat} {T : Nat → Nat × Nat × Int × List Int × Nat} {PL WA OA : Nat → Int} {TO BI : Nat → Nat → Int} {nm : Nat → List Int} {Q : mj_P} {d : Nat} {f : Int} {t : Nat × Nat × Int × List Int × Nat} (hA : rv_AT G M0 B n lim tp bc pl na ta ba wa oa tr br T) (hS : rv_S G M0 n lim tp pl na wa oa tr br t PL WA OA TO BI nm M) (hf0 : f ≠ 0) (hQ : ∀ M', rv_F tp pl na wa oa tr br M0 f t.2.1 M' → Q (some (.inl 0)) G M') : mj_R mj_tab (d + 1) 83 [.inr (.inr (some tp)), .inl f] G M Q := by
  have gtp := hA.1.1
  refine ⟨Nat.le_of_ble_eq_true rfl, ?_⟩
  show wz d mt_X7_refuse.2.2.2.2.1 Q mt_X7_refuse.2.2.2.2.1 [some (.inr (.inr (some tp))), some (.inl f)] [] G M _ _
  refine w_aln rfl ?_
  refine w_iln rfl ?_
  refine w_pi gtp rfl (by decide) rfl (fun q => by cases q) ?_
  refine w_aln rfl ?_
  refine w_aln rfl ?_
  refine w_gi gtp rfl (by decide) rfl rfl ?_
  refine w_pi gtp rfl (by decide) rfl (fun q => by cases q) ?_
  refine w_ic ?_
  exact w_iret (fun _ => Or.inl rfl) (hQ _ (hS.ref hA.1 ((hn_n (Or.inr (by decide))).trans hS.2.1.2.1) hf0))
theorem r_X7_numberHere {G : mj_G} {M0 M : mj_M} {B : Nat → Int} {n lim tp bc pl na ta ba wa oa : Nat} {tr br : Nat → Nat} {T : Nat → Nat × Nat × Int × List Int × Nat} {PL WA OA : Nat → Int} {TO BI : Nat → Nat → Int} {nm : Nat → List Int} {Q : mj_P} {d q : Nat} {lo hi : Int} (hA : rv_AT G M0 B n lim tp bc pl na ta ba wa oa tr br T) (hS : rv_S G M0 n lim tp pl na wa oa tr br (T q) PL WA OA TO BI nm M) (h : sp_num T lo hi q (fun f a => ∀ M', rv_F tp pl na wa oa tr br M0 f a M' → Q (some (.inl (-1))) G M') (∀ M', rv_S G M0 n lim tp pl na wa oa tr br (T q) PL WA OA TO BI nm M' → Q (some (.inl (T q).2.2.1)) G M')) : mj_R mj_tab (d + 2) 79 [.inr (.inr (some tp)), .inl lo, .inl hi] G M Q := by
  obtain ⟨⟨gtp, gbc, gpl, gna, gta, gba, gwa, goa, gtr, gbr, itr, ibr, r1, r2, r3, r4, r5, r6, r7, r8, rb, rw0, n1, n2, hIw⟩, hT⟩ := id hA
  obtain ⟨k4, k5, k11, k6, k7, k8, k9⟩ := id hS.2.1
  refine ⟨Nat.le_of_ble_eq_true rfl, ?_⟩
  show wz (d + 1) mt_X7_numberHere.2.2.2.2.1 Q mt_X7_numberHere.2.2.2.2.1 [some (.inr (.inr (some tp))), some (.inl lo), some (.inl hi)] [] G M _ _
  refine w_aln rfl ?_
  refine w_gi gtp rfl (by decide) rfl (rfl) ?_
  refine w_ic ?_
  refine w_cmeq (fun c1 => ?_) (fun c1 => ?_)
  · skip
    refine w_aln rfl ?_
    refine w_gi gtp rfl (by decide) rfl (rfl) ?_
    refine w_iln rfl ?_
    refine w_cmlt (fun c2 => ?_) (fun c2 => ?_)
    · skip
      refine w_aln rfl ?_
      refine w_ic ?_
      have h4 := h.1 (by omega)
      clear h
      have h5 := h4.2 (by omega)
      clear h4
      refine w_cv (st := []) rfl gtp rfl (Nat.le_of_ble_eq_true rfl) (fun kk h => h) (r_X7_refuse (d := d) hA hS (by decide) (fun MF3 F3 => ?_))
      refine w_pop ?_
      refine w_ic ?_
      exact w_iret (fun q => by cases q) (h5 _ F3)
    · skip
      refine w_aln rfl ?_
      refine w_gi gtp rfl (by decide) rfl (rfl) ?_
      refine w_iln rfl ?_
      refine w_cmle (fun c6 => ?_) (fun c6 => ?_)
      · skip
        refine w_aln rfl ?_
        refine w_gi gtp rfl (by decide) rfl (rfl) ?_
        have h7 := h.1 (by omega)
        clear h
        have h8 := h7.1 (by omega)
        clear h7
        have h9 := h8.1 (by omega)
        clear h8
        rw [(k6 (by omega)).1]; exact w_iret (fun q => by cases q) (h9 _ hS)
      · skip
        refine w_aln rfl ?_
        refine w_ic ?_
        have h11 := h.1 (by omega)
        clear h
        have h12 := h11.1 (by omega)
        clear h11
        have h13 := h12.2 (by omega)
        clear h12
        refine w_cv (st := []) rfl gtp rfl (Nat.le_of_ble_eq_true rfl) (fun kk h => h) (r_X7_refuse (d := d) hA hS (by decide) (fun MF10 F10 => ?_))
        refine w_pop ?_
        refine w_ic ?_
        exact w_iret (fun q => by cases q) (h13 _ F10)
  · skip
    refine w_aln rfl ?_
    refine w_ic ?_
    have h15 := h.2 (by omega)
    clear h
    refine w_cv (st := []) rfl gtp rfl (Nat.le_of_ble_eq_true rfl) (fun kk h => h) (r_X7_refuse (d := d) hA hS (by decide) (fun MF14 F14 => ?_))
    refine w_pop ?_
    refine w_ic ?_
    exact w_iret (fun q => by cases q) (h15 _ F14)
theorem r_X7_nextNumber {G : mj_G} {M0 M : mj_M} {B : Nat → Int} {n lim tp bc pl na ta ba wa oa : Nat} {tr br : Nat → Nat} {T : Nat → Nat × Nat × Int × List Int × Nat} {PL WA OA : Nat → Int} {TO BI : Nat → Nat → Int} {nm : Nat → List Int} {Q : mj_P} {d q : Nat} {lo hi : Int} (hA : rv_AT G M0 B n lim tp bc pl na ta ba wa oa tr br T) (hS : rv_S G M0 n lim tp pl na wa oa tr br (T q) PL WA OA TO BI nm M) (hqn : q ≤ n) (h : sp_num T lo hi (rv_x T q) (fun f a => ∀ M', rv_F tp pl na wa oa tr br M0 f a M' → Q (some (.inl (-1))) G M') (∀ M', rv_S G M0 n lim tp pl na wa oa tr br (T (rv_x T q)) PL WA OA TO BI nm M' → Q (some (.inl (T (rv_x T q)).2.2.1)) G M')) : mj_R mj_tab (d + 4) 77 [.inr (.inr (some tp)), .inl lo, .inl hi] G M Q := by
  have gtp := hA.1.1
  refine ⟨Nat.le_of_ble_eq_true rfl, ?_⟩
  show wz (d + 3) mt_X7_nextNumber.2.2.2.2.1 Q mt_X7_nextNumber.2.2.2.2.1 [some (.inr (.inr (some tp))), some (.inl lo), some (.inl hi)] [] G M _ _
  refine w_aln rfl ?_
  refine w_cv (st := []) rfl gtp rfl (Nat.le_of_ble_eq_true rfl) (fun kk h => h) (r_adv2 (d := d) hA hS hqn (fun M1 s1 => ?_))
  refine w_aln rfl ?_
  refine w_iln rfl ?_
  refine w_iln rfl ?_
  refine w_cv (st := []) rfl gtp rfl (Nat.le_of_ble_eq_true rfl) (fun kk h => h) (r_X7_numberHere (d := d + 1) hA s1 (h.mono (fun f a hf M' F => w_iret (fun q => by cases q) (hf M' F)) (fun _ _ _ hv M' s => w_iret (fun q => by cases q) (hv M' s))))
theorem r_X7_nextSign {G : mj_G} {M0 M : mj_M} {B : Nat → Int} {n lim tp bc pl na ta ba wa oa : Nat} {tr br : Nat → Nat} {T : Nat → Nat × Nat × Int × List Int × Nat} {PL WA OA : Nat → Int} {TO BI : Nat → Nat → Int} {nm : Nat → List Int} {Q : mj_P} {d q : Nat} {c : Int} (hA : rv_AT G M0 B n lim tp bc pl na ta ba wa oa tr br T) (hS : rv_S G M0 n lim tp pl na wa oa tr br (T q) PL WA OA TO BI nm M) (hqn : q ≤ n) (h : sp_sgn T c (rv_x T q) (fun f a => ∀ M', rv_F tp pl na wa oa tr br M0 f a M' → Q (some (.inl 0)) G M') (∀ M', rv_S G M0 n lim tp pl na wa oa tr br (T (rv_x T q)) PL WA OA TO BI nm M' → Q (some (.inl 1)) G M')) : mj_R mj_tab (d + 4) 78 [.inr (.inr (some tp)), .inl c] G M Q := by
  have gtp := hA.1.1
  refine ⟨Nat.le_of_ble_eq_true rfl, ?_⟩
  show wz (d + 3) mt_X7_nextSign.2.2.2.2.1 Q mt_X7_nextSign.2.2.2.2.1 [some (.inr (.inr (some tp))), some (.inl c)] [] G M _ _
  refine w_aln rfl ?_
  refine w_cv (st := []) rfl gtp rfl (Nat.le_of_ble_eq_true rfl) (fun kk h => h) (r_adv2 (d := d) hA hS hqn (fun M1 s1 => ?_))
  obtain ⟨k4, k5, k11, k6, k7, k8, k9⟩ := id s1.2.1
  refine w_aln rfl ?_
  refine w_iln rfl ?_
  refine w_cv (st := []) rfl gtp rfl (Nat.le_of_ble_eq_true rfl) (fun kk h => h) ⟨Nat.le_of_ble_eq_true rfl, ?_⟩
  show wz (d + 2) mt_X7_isSign.2.2.2.2.1 _ mt_X7_isSign.2.2.2.2.1 [some (.inr (.inr (some tp))), some (.inl c)] [] _ _ _ _
  refine w_aln rfl ?_
  refine w_gi gtp rfl (by decide) rfl (rfl) ?_
  refine w_ic ?_
  refine w_cmne (fun c1 => ?_) (fun c1 => ?_)
  · skip
    refine w_ic ?_
    refine w_iret (fun _ => Or.inl rfl) ?_
    refine w_ifne (fun c2 => ?_) (fun c2 => ?_)
    · exfalso; omega
    · skip
      refine w_aln rfl ?_
      refine w_ic ?_
      have h4 := h.2 (by omega)
      clear h
      refine w_cv (st := []) rfl gtp rfl (Nat.le_of_ble_eq_true rfl) (fun kk h => h) (r_X7_refuse (d := d + 2) hA s1 (by decide) (fun MF3 F3 => ?_))
      refine w_ifeq (fun c5 => ?_) (fun c5 => ?_)
      · skip
        refine w_ic ?_
        exact w_iret (fun _ => Or.inl rfl) (h4 _ F3)
      · exfalso; omega
  · skip
    refine w_aln rfl ?_
    refine w_gi gtp rfl (by decide) rfl (rfl) ?_
    refine w_iln rfl ?_
    refine w_cmne (fun c6 => ?_) (fun c6 => ?_)
    · skip
      refine w_ic ?_
      refine w_iret (fun _ => Or.inl rfl) ?_
      refine w_ifne (fun c7 => ?_) (fun c7 => ?_)
      · exfalso; omega
      · skip
        refine w_aln rfl ?_
        refine w_ic ?_
        have h9 := h.1 (by omega)
        clear h
        have h10 := h9.2 (by omega)
        clear h9
        refine w_cv (st := []) rfl gtp rfl (Nat.le_of_ble_eq_true rfl) (fun kk h => h) (r_X7_refuse (d := d + 2) hA s1 (by decide) (fun MF8 F8 => ?_))
        refine w_ifeq (fun c11 => ?_) (fun c11 => ?_)
        · skip
          refine w_ic ?_
          exact w_iret (fun _ => Or.inl rfl) (h10 _ F8)
        · exfalso; omega
    · skip
      refine w_ic ?_
      refine w_goto ?_
      refine w_iret (fun _ => Or.inr rfl) ?_
      refine w_ifne (fun c12 => ?_) (fun c12 => ?_)
      · skip
        refine w_ic ?_
        refine w_goto ?_
        have h13 := h.1 (by omega)
        clear h
        have h14 := h13.1 (by omega)
        clear h13
        exact w_iret (fun _ => Or.inr rfl) (h14 _ s1)
      · exfalso; omega
theorem r_X7_nameHere {G : mj_G} {M0 M : mj_M} {B : Nat → Int} {n lim tp bc pl na ta ba wa oa : Nat} {tr br : Nat → Nat} {T : Nat → Nat × Nat × Int × List Int × Nat} {PL WA OA : Nat → Int} {TO BI : Nat → Nat → Int} {nm : Nat → List Int} {Q : mj_P} {d q : Nat} (hA : rv_AT G M0 B n lim tp bc pl na ta ba wa oa tr br T) (hS : rv_S G M0 n lim tp pl na wa oa tr br (T q) PL WA OA TO BI nm M) (hqn : q ≤ n) (h : sp_nam T q (fun f a => ∀ M', rv_F tp pl na wa oa tr br M0 f a M' → Q (some (.inl 0)) G M') (Q (some (.inl 1)) G M)) : mj_R mj_tab (d + 2) 76 [.inr (.inr (some tp))] G M Q := by
  obtain ⟨⟨gtp, gbc, gpl, gna, gta, gba, gwa, goa, gtr, gbr, itr, ibr, r1, r2, r3, r4, r5, r6, r7, r8, rb, rw0, n1, n2, hIw⟩, hT⟩ := id hA
  obtain ⟨k4, k5, k11, k6, k7, k8, k9⟩ := id hS.2.1
  have hk : ((T q).1 = 1 ∧ rv_nam (T q).2.2.2.1 ∧ M.2.2 tp 9 = none) ∨ ((T q).1 = 1 ∧ ¬ rv_nam (T q).2.2.2.1 ∧ M.2.2 tp 9 ≠ none) ∨ (T q).1 ≠ 1 := by
    by_cases c : (T q).1 = 1
    · have hw := rv_nam5 (rv_x_wo hA hqn c)
      rcases (k8 c).2 with ⟨j, w, j1, j2, j3, j4⟩ | ⟨j1, j2⟩
      · exact Or.inr (Or.inl ⟨c, fun g => hw.mp g j j1 j2, by rw [j4]; exact fun e => by cases e⟩)
      · exact Or.inl ⟨c, hw.mpr j1, j2⟩
    · exact Or.inr (Or.inr c)
  refine ⟨Nat.le_of_ble_eq_true rfl, ?_⟩
  show wz (d + 1) mt_X7_nameHere.2.2.2.2.1 Q mt_X7_nameHere.2.2.2.2.1 [some (.inr (.inr (some tp)))] [] G M _ _
  have bad : ∀ cb sb, ¬ ((T q).1 = 1 ∧ rv_nam (T q).2.2.2.1) → wz (d + 1) mt_X7_nameHere.2.2.2.2.1 Q (mt_X7_nameHere.2.2.2.2.1.drop 7) [some (.inr (.inr (some tp)))] [] G M cb sb := by
    intro cb sb hc
    refine w_aln rfl ?_
    refine w_ic ?_
    refine w_cv (st := []) rfl gtp rfl (Nat.le_of_ble_eq_true rfl) (fun kk h => h) (r_X7_refuse (d := d) hA hS (by decide) (fun M' F => ?_))
    refine w_ifeq (fun c => ?_) (fun c => absurd rfl c)
    refine w_ic ?_
    refine w_iret (fun _ => Or.inl rfl) ?_
    by_cases c1 : (T q).1 = 1
    · exact (h.1 c1).2 (fun g => hc ⟨c1, g⟩) M' F
    · exact h.2 c1 M' F
  refine w_aln rfl ?_
  refine w_gi gtp rfl (by decide) rfl rfl ?_
  refine w_ic ?_
  refine w_cmne (fun c => bad _ _ (by rintro ⟨e, -⟩; omega)) (fun c => ?_)
  refine w_aln rfl ?_
  refine w_gro gtp rfl (by decide) rfl rfl ?_
  refine w_ifnull (fun c2 => ?_) (fun c2 => bad _ _ ?_)
  · refine w_ic ?_
    refine w_goto ?_
    refine w_iret (fun _ => Or.inr rfl) ?_
    rcases hk with ⟨a, b, -⟩ | ⟨a, b, e⟩ | a
    · exact (h.1 a).1 b
    · exact absurd c2 e
    · exfalso; omega
  · rintro ⟨a1, a2⟩
    rcases hk with ⟨a, b, e⟩ | ⟨a, b, e⟩ | a
    · exact c2 e
    · exact b a2
    · exact a a1
theorem r_find3 {G : mj_G} {M0 M : mj_M} {B : Nat → Int} {n lim tp bc pl na ta ba wa oa : Nat} {tr br : Nat → Nat} {T : Nat → Nat × Nat × Int × List Int × Nat} {PL WA OA : Nat → Int} {TO BI : Nat → Nat → Int} {nm : Nat → List Int} {Q : mj_P} {d q : Nat} {w : List Int} (hA : rv_AT G M0 B n lim tp bc pl na ta ba wa oa tr br T) (hS : rv_S G M0 n lim tp pl na wa oa tr br (T q) PL WA OA TO BI nm M) (hb : rv_pb PL) (hw : rv_wo w) (h : sp_find nm (PL 4) w (fun r => Q (some (.inl r)) G M)) : ∀ f i : Nat, PL 4 ≤ ((i + f : Nat) : Int) → (i : Int) ≤ PL 4 → (∀ j, j < i → nm j ≠ w) → ∀ cb sb, wz d mt_X3_find.2.2.2.2.1 Q (mt_X3_find.2.2.2.2.1.drop 2) [some (.inr (.inr (some pl))), some (.inr (.inl (rv_5 w))), none, some (.inl (i : Int))] [] G M cb sb := by
  obtain ⟨⟨gtp, gbc, gpl, gna, gta, gba, gwa, goa, gtr, gbr, itr, ibr, r1, r2, r3, r4, r5, r6, r7, r8, rb, rw0, n1, n2, hIw⟩, hT⟩ := id hA
  obtain ⟨b1, b2, b3, b4⟩ := hb
  have sh : ∀ (f i : Nat), PL 4 ≤ ((i + f : Nat) : Int) → (i : Int) ≤ PL 4 → (∀ j, j < i → nm j ≠ w) → (∀ cb sb, (i : Int) < PL 4 → nm i ≠ w → wz d mt_X3_find.2.2.2.2.1 Q (mt_X3_find.2.2.2.2.1.drop 2) [some (.inr (.inr (some pl))), some (.inr (.inl (rv_5 w))), none, some (.inl ((i : Int) + 1))] [] G M cb sb) → ∀ cb sb, wz d mt_X3_find.2.2.2.2.1 Q (mt_X3_find.2.2.2.2.1.drop 2) [some (.inr (.inr (some pl))), some (.inr (.inl (rv_5 w))), none, some (.inl (i : Int))] [] G M cb sb := by
    intro f i g1 g2 g3 go cb sb
    refine w_iln rfl ?_
    refine w_aln rfl ?_
    refine w_gi gpl rfl (by decide) rfl (congrFun hS.2.2.1 4) ?_
    refine w_cmge (fun c => ?_) (fun c => ?_)
    · refine w_ic ?_
      exact w_iret (fun q => by cases q) (h.2 (fun j hj => g3 j (by omega)))
    · refine w_aln rfl ?_
      refine w_gr gpl rfl (by decide) rfl (hS.rr r2 (by decide)) ?_
      refine w_iln rfl ?_
      refine w_lald gna rfl (by omega) (by show (i : Int) < ((8 : Nat) : Int); omega) (hS.2.2.2.2.2.2.2.1 i (by omega)).1 ?_
      refine w_lln rfl ?_
      refine w_lcmp ?_
      intro z hz ez
      have qz := rv_cmp ez
      refine w_ifne (fun c2 => ?_) (fun c2 => ?_)
      · refine w_ii rfl ⟨by omega, by omega⟩ ?_
        refine w_goto ?_
        exact go _ _ c (fun e => qz.2 c2 (by rw [e]))
      · refine w_iln rfl ?_
        exact w_iret (fun q => by cases q) (h.1 i c (rv_5i (hS.2.2.2.2.2.2.2.1 i (by omega)).2 hw (qz.1 c2)) g3)
  intro f
  induction f with
  | zero => intro i g1 g2 g3 cb sb; exact sh 0 i g1 g2 g3 (fun cb sb c _ => by exfalso; omega) cb sb
  | succ f ih =>
    intro i g1 g2 g3 cb sb
    exact sh (f + 1) i g1 g2 g3 (fun cb sb c c2 => ih (i + 1) (by omega) (by omega) (fun j hj => by
      rcases Nat.lt_or_ge j i with q | q
      · exact g3 j q
      · rw [show j = i by omega]; exact c2) cb sb) cb sb
theorem r_X3_find {G : mj_G} {M0 M : mj_M} {B : Nat → Int} {n lim tp bc pl na ta ba wa oa : Nat} {tr br : Nat → Nat} {T : Nat → Nat × Nat × Int × List Int × Nat} {PL WA OA : Nat → Int} {TO BI : Nat → Nat → Int} {nm : Nat → List Int} {Q : mj_P} {d q : Nat} {w : List Int} (hA : rv_AT G M0 B n lim tp bc pl na ta ba wa oa tr br T) (hS : rv_S G M0 n lim tp pl na wa oa tr br (T q) PL WA OA TO BI nm M) (hb : rv_pb PL) (hw : rv_wo w) (h : sp_find nm (PL 4) w (fun r => Q (some (.inl r)) G M)) : mj_R mj_tab (d + 1) 33 [.inr (.inr (some pl)), .inr (.inl (rv_5 w))] G M Q := by
  refine ⟨Nat.le_of_ble_eq_true rfl, ?_⟩
  show wz d mt_X3_find.2.2.2.2.1 Q mt_X3_find.2.2.2.2.1 [some (.inr (.inr (some pl))), some (.inr (.inl (rv_5 w))), none, none] [] G M _ _
  refine w_ic ?_
  refine w_isn ?_
  exact r_find3 hA hS hb hw h 8 0 (by have := hb.2.1; omega) hb.1 (fun j hj => absurd hj (Nat.not_lt_zero j)) _ _
