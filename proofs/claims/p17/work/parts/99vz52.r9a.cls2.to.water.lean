section
/-! ===== the cheapest letting: the class, its search (laid by a program) ===== -/
theorem r_kp {G : mj_G} {M0 : mj_M} {w : Nat → Nat} {H : Nat → Int} {Q : mj_P} {d : Nat} (ga : cp_GA G w) (gb : cp_BA M0 w) (hK : cc_K H M0 w) (hr : rv_r4 H 0) (t1 : 1 ≤ H 0) (t3 : H 0 ≤ 3) {M : mj_M} {LA PA : Nat → Int} {mi pd : Int} (m0 : 0 ≤ mi) (m12 : mi ≤ 12) : ∀ (n : Nat) (i : Int) (BE BE0 : Nat → Int) (M : mj_M) (cb sb : Nat), i + n = mi → 0 ≤ i → cc_C w M0 LA PA BE pd M → (∀ j : Nat, (j : Int) < i → BE j = PA j) → (∀ j : Nat, i ≤ (j : Int) → BE j = BE0 j) → (∀ BE M, cc_C w M0 LA PA BE pd M → (∀ j : Nat, (j : Int) < mi → BE j = PA j) → (∀ j : Nat, mi ≤ (j : Int) → BE j = BE0 j) → Q none G M) → wz d mt_X0_keepPath.2.2.2.2.1 Q (mt_X0_keepPath.2.2.2.2.1.drop 5) [some (.inr (.inr (some (w 125)))), some (.inl mi), some (.inl pd), some (.inl i)] [] G M cb sb := by
  intro n
  induction n with
  | zero =>
    intro i BE BE0 M cb sb e i0 hC h1 h2 h
    refine w_iln rfl ?_
    refine w_iln rfl ?_
    refine w_cmge (fun c1 => ?_) (fun c1 => ?_)
    · skip
      exact w_ret (h BE M hC (fun j hj => h1 j (by omega)) (fun j hj => h2 j (by omega)))
    · exfalso; omega
  | succ n ih =>
    intro i BE BE0 M cb sb e i0 hC h1 h2 h
    refine w_iln rfl ?_
    refine w_iln rfl ?_
    refine w_cmge (fun c1 => ?_) (fun c1 => ?_)
    · exfalso; omega
    · skip
      refine w_iln rfl ?_
      refine w_bp ?_
      refine w_cmge (fun c2 => ?_) (fun c2 => ?_)
      · exfalso; omega
      · skip
        refine w_aln rfl ?_
        refine w_gr ga.g125 rfl (by decide) rfl (hC.r (gb.r125_17)) ?_
        refine w_iln rfl ?_
        refine w_aln rfl ?_
        refine w_gr ga.g125 rfl (by decide) rfl (hC.r (gb.r125_16)) ?_
        refine w_iln rfl ?_
        refine w_iald (v := (PA i.toNat)) ga.g144 rfl (by show (0 : Int) ≤ i; omega) (by show i < ((12 : Nat) : Int); omega) (hC.2.2.2.2.2.1 _ (by show i.toNat < 12; omega)) ?_
        refine w_iast ga.g145 rfl (by decide) (by show (0 : Int) ≤ i; omega) (by show i < ((12 : Nat) : Int); omega) ?_
        have hC3 := hC.h145 (j := i.toNat) (v := (PA i.toNat)) ga
        refine w_ii rfl ⟨by show (-2147483648 : Int) ≤ i + 1; omega, by show i + 1 < (2147483648 : Int); omega⟩ ?_
        show wz _ _ _ _ [some (.inr (.inr (some (w 125)))), some (.inl mi), some (.inl pd), some (.inl (i + 1))] _ _ _ _ _
        refine w_goto ?_
        refine ih (i + 1) _ BE0 _ _ _ (by omega) (by omega) hC3 (fun j hj => ?_) (fun j hj => (rv_up_n (by omega)).trans (h2 j (by omega))) h
        by_cases ej : (j : Int) = i
        · rw [show j = i.toNat by omega, rv_up_s]
        · exact (rv_up_n (by omega)).trans (h1 j (by omega))
theorem r_X0_keepPath {G : mj_G} {M0 : mj_M} {w : Nat → Nat} {H : Nat → Int} {Q : mj_P} {d : Nat} (ga : cp_GA G w) (gb : cp_BA M0 w) (hK : cc_K H M0 w) (hr : rv_r4 H 0) (t1 : 1 ≤ H 0) (t3 : H 0 ≤ 3) {M : mj_M} {LA PA BE : Nat → Int} {bp : Int} (hC : cc_C w M0 LA PA BE bp M) {mi pd : Int} (m0 : 0 ≤ mi) (m12 : mi ≤ 12) (h : ∀ BE2 M2, cc_C w M0 LA PA BE2 pd M2 → (∀ j : Nat, (j : Int) < mi → BE2 j = PA j) → (∀ j : Nat, mi ≤ (j : Int) → BE2 j = BE j) → Q none G M2) : mj_R mj_tab (d + 1) 4 [.inr (.inr (some (w 125))), .inl mi, .inl pd] G M Q := by
  refine ⟨Nat.le_of_ble_eq_true rfl, ?_⟩
  show wz d mt_X0_keepPath.2.2.2.2.1 Q mt_X0_keepPath.2.2.2.2.1 [some (.inr (.inr (some (w 125)))), some (.inl mi), some (.inl pd), none] [] G M _ _
  refine w_aln rfl ?_
  refine w_iln rfl ?_
  refine w_pi ga.g125 rfl (by decide) rfl (fun q => by cases q) ?_
  refine w_ic ?_
  refine w_isn ?_
  exact r_kp ga gb hK hr t1 t3 (M := M) m0 m12 mi.toNat 0 BE BE _ _ _ (by omega) (by decide) (hC.h18 ga) (fun j hj => absurd hj (by omega)) (fun _ _ => rfl) h
theorem r_ff {G : mj_G} {M0 : mj_M} {w : Nat → Nat} {H : Nat → Int} {Q : mj_P} {d : Nat} (ga : cp_GA G w) (gb : cp_BA M0 w) (hK : cc_K H M0 w) (hr : rv_r4 H 0) (t1 : 1 ≤ H 0) (t3 : H 0 ≤ 3) {M : mj_M} {LA PA BE : Nat → Int} {bp : Int} (hC : cc_C w M0 LA PA BE bp M) {fr : Int} (f0 : 0 ≤ fr) (f3 : fr ≤ H 0) (h : ∀ p : Nat, p ≤ cs_t H → cs_cost H fr.toNat p = 0 → (∀ j, j < p → cs_cost H fr.toNat j ≠ 0) → Q (some (.inl (p : Int))) G M) : ∀ (n : Nat) (k : Int) (cb sb : Nat), k + n = H 0 → 0 ≤ k → (∀ j : Nat, (j : Int) < k → cs_cost H fr.toNat j ≠ 0) → wz (d + 1) mt_X0_firstForNothing.2.2.2.2.1 Q (mt_X0_firstForNothing.2.2.2.2.1.drop 2) [some (.inr (.inr (some (w 125)))), some (.inl fr), some (.inl k)] [] G M cb sb := by
  have et := cs_te hr
  have b1 := cs_r1 hr
  intro n
  induction n with
  | zero =>
    intro k cb sb e k0 hk
    have hfr : fr = H 0 := by
      rcases (by omega : fr = H 0 ∨ fr < H 0) with z | z
      · exact z
      · exact absurd (cs_cost_s (H := H) fr.toNat) (hk fr.toNat (by omega))
    refine w_iln rfl ?_
    refine w_aln rfl ?_
    refine w_gi ga.g125 rfl (by decide) rfl ((hC.2.2.1 5 (by decide)).trans hK.1) ?_
    refine w_cmge (fun c1 => ?_) (fun c1 => ?_)
    · skip
      refine w_iln rfl ?_
      have h9 := h fr.toNat (by omega) (cs_cost_s _) (fun j hj => hk j (by omega))
      rw [show ((fr.toNat : Nat) : Int) = fr by omega] at h9
      exact w_iret (fun q => by cases q) h9
    · exfalso; omega
  | succ n ih =>
    intro k cb sb e k0 hk
    refine w_iln rfl ?_
    refine w_aln rfl ?_
    refine w_gi ga.g125 rfl (by decide) rfl ((hC.2.2.1 5 (by decide)).trans hK.1) ?_
    refine w_cmge (fun c1 => ?_) (fun c1 => ?_)
    · exfalso; omega
    · skip
      refine w_aln rfl ?_
      refine w_iln rfl ?_
      refine w_iln rfl ?_
      have cb2 := cs_cost_9 hr t3 (a := fr.toNat) (b := k.toNat) (by omega) (by omega)
      refine w_cv (st := []) rfl ga.g125 rfl (Nat.le_of_ble_eq_true rfl) (fun kk h => h) (r_X0_costOf (d := d) ga gb hK hr t1 t3 hC (fr := fr) (to := k) (by omega) (by omega) (by omega) (by omega) ?_)
      refine w_ifne (fun c3 => ?_) (fun c3 => ?_)
      · skip
        refine w_ii rfl ⟨by show (-2147483648 : Int) ≤ k + 1; omega, by show k + 1 < (2147483648 : Int); omega⟩ ?_
        show wz _ _ _ _ [some (.inr (.inr (some (w 125)))), some (.inl fr), some (.inl (k + 1))] _ _ _ _ _
        refine w_goto ?_
        exact ih (k + 1) _ _ (by omega) (by omega) (fun j hj => by
                  by_cases ej : (j : Int) = k
                  · rw [show j = k.toNat by omega]; omega
                  · exact hk j (by omega))
      · skip
        refine w_iln rfl ?_
        have h9 := h k.toNat (by omega) (by omega) (fun j hj => hk j (by omega))
        rw [show ((k.toNat : Nat) : Int) = k by omega] at h9
        exact w_iret (fun q => by cases q) h9
theorem r_X0_firstForNothing {G : mj_G} {M0 : mj_M} {w : Nat → Nat} {H : Nat → Int} {Q : mj_P} {d : Nat} (ga : cp_GA G w) (gb : cp_BA M0 w) (hK : cc_K H M0 w) (hr : rv_r4 H 0) (t1 : 1 ≤ H 0) (t3 : H 0 ≤ 3) {M : mj_M} {LA PA BE : Nat → Int} {bp : Int} (hC : cc_C w M0 LA PA BE bp M) {fr : Int} (f0 : 0 ≤ fr) (f3 : fr ≤ H 0) (h : ∀ p : Nat, p ≤ cs_t H → cs_cost H fr.toNat p = 0 → (∀ j, j < p → cs_cost H fr.toNat j ≠ 0) → Q (some (.inl (p : Int))) G M) : mj_R mj_tab (d + 2) 2 [.inr (.inr (some (w 125))), .inl fr] G M Q := by
  have et := cs_te hr
  refine ⟨Nat.le_of_ble_eq_true rfl, ?_⟩
  show wz (d + 1) mt_X0_firstForNothing.2.2.2.2.1 Q mt_X0_firstForNothing.2.2.2.2.1 [some (.inr (.inr (some (w 125)))), some (.inl fr), none] [] G M _ _
  refine w_ic ?_
  refine w_isn ?_
  exact r_ff ga gb hK hr t1 t3 hC f0 f3 h (cs_t H) 0 _ _ (by omega) (by decide) (fun j hj => absurd hj (by omega))
theorem r_sf {G : mj_G} {M0 : mj_M} {w : Nat → Nat} {H : Nat → Int} {Q : mj_P} {d : Nat} (ga : cp_GA G w) (gb : cp_BA M0 w) (hK : cc_K H M0 w) (hr : rv_r4 H 0) (t1 : 1 ≤ H 0) (t3 : H 0 ≤ 3) {LA PA : Nat → Int} {bp mi at_ : Int} : ∀ (n : Nat) (i : Int) (pl : Nat) (L : Nat → Int) (BE : Nat → Int) (M : mj_M) (cb sb : Nat), i + n = 12 → 0 ≤ i → pl ≤ cs_t H → cs_met H L → cc_C w M0 LA PA BE bp M → (∀ BE2 M2 W, cc_C w M0 LA PA BE2 bp M2 → (∀ j : Nat, (j : Int) < i → BE2 j = BE j) → cs_S H n i.toNat pl L = some (0, W) → (∀ j : Nat, i ≤ (j : Int) → j < 12 → cs_pc H (BE2 j) = W j) → Q none G M2) → wz (d + 2) mt_X0_stayFrom.2.2.2.2.1 Q (mt_X0_stayFrom.2.2.2.2.1.drop 4) [some (.inr (.inr (some (w 125)))), some (.inl mi), some (.inl at_), some (.inl (pl : Int)), some (.inl i)] [] G M cb sb := by
  have et := cs_te hr
  have b1 := cs_r1 hr
  have ho := cs_oke hr
  intro n
  induction n with
  | zero =>
    intro i pl L BE M cb sb e i0 hp hm hC h
    refine w_il rfl ?_
    refine w_bp ?_
    refine w_cmge (fun c1 => ?_) (fun c1 => ?_)
    · skip
      exact w_ret (h BE M (fun _ => 0) hC (fun _ _ => rfl) (if_pos hm) (fun j h1 h2 => by omega))
    · exfalso; omega
  | succ n ih =>
    intro i pl L BE M cb sb e i0 hp hm hC h
    refine w_il rfl ?_
    refine w_bp ?_
    refine w_cmge (fun c1 => ?_) (fun c1 => ?_)
    · exfalso; omega
    · skip
      refine w_aln rfl ?_
      refine w_iln rfl ?_
      refine w_cv (st := []) rfl ga.g125 rfl (Nat.le_of_ble_eq_true rfl) (fun kk h => h) (r_X0_firstForNothing (d := d) ga gb hK hr t1 t3 hC (fr := (pl : Int)) (by omega) (by omega) (fun p q1 q2 q3 => ?_))
      refine w_isn ?_
      show wz _ _ _ _ [some (.inr (.inr (some (w 125)))), some (.inl mi), some (.inl at_), some (.inl (p : Int)), some (.inl i)] _ _ _ _ _
      refine w_aln rfl ?_
      refine w_gr ga.g125 rfl (by decide) rfl (hC.r (gb.r125_17)) ?_
      refine w_il rfl ?_
      refine w_iln rfl ?_
      refine w_iast ga.g145 rfl (by decide) (by show (0 : Int) ≤ i; omega) (by show i < ((12 : Nat) : Int); omega) ?_
      have hC2 := hC.h145 (j := i.toNat) (v := (p : Int)) ga
      refine w_ii rfl ⟨by show (-2147483648 : Int) ≤ i + 1; omega, by show i + 1 < (2147483648 : Int); omega⟩ ?_
      show wz _ _ _ _ [some (.inr (.inr (some (w 125)))), some (.inl mi), some (.inl at_), some (.inl (p : Int)), some (.inl (i + 1))] _ _ _ _ _
      refine w_goto ?_
      have hm2 : cs_met H (cs_lk H L p i.toNat) := fun k hk => Int.le_trans (cs_lk_le L p i.toNat k) (hm k hk)
      have es := cs_met_step ho (r := n) (m := i.toNat) (a := pl) hm (show p < cs_t H + 1 by omega) q2 q3
      refine ih (i + 1) p (cs_lk H L p i.toNat) _ _ _ _ (by omega) (by omega) q1 hm2 hC2 (fun BE2 M2 W g1 g2 g3 g4 => ?_)
      rw [show (i + 1).toNat = i.toNat + 1 by omega] at g3
      rw [g3] at es
      refine h BE2 M2 (fun j => if j = i.toNat then cs_code H p else W j) g1 (fun j hj => (g2 j (by omega)).trans (rv_up_n (by omega))) es (fun j h1 h2 => ?_)
      by_cases ej : j = i.toNat
      · rw [if_pos ej, g2 j (by omega), ej, rv_up_s]; exact cs_pc_n hr p
      · rw [if_neg ej]; exact g4 j (by omega) h2
theorem r_X0_stayFrom {G : mj_G} {M0 : mj_M} {w : Nat → Nat} {H : Nat → Int} {Q : mj_P} {d : Nat} (ga : cp_GA G w) (gb : cp_BA M0 w) (hK : cc_K H M0 w) (hr : rv_r4 H 0) (t1 : 1 ≤ H 0) (t3 : H 0 ≤ 3) {M : mj_M} {LA PA BE : Nat → Int} {bp : Int} (hC : cc_C w M0 LA PA BE bp M) {mi at_ : Int} (m0 : 0 ≤ mi) (m12 : mi ≤ 12) (a0 : 0 ≤ at_) (a3 : at_ ≤ H 0) (hm : cs_met H LA) (h : ∀ BE2 M2 W, cc_C w M0 LA PA BE2 bp M2 → (∀ j : Nat, (j : Int) < mi → BE2 j = BE j) → cs_S H (12 - mi).toNat mi.toNat at_.toNat LA = some (0, W) → (∀ j : Nat, mi ≤ (j : Int) → j < 12 → cs_pc H (BE2 j) = W j) → Q none G M2) : mj_R mj_tab (d + 3) 14 [.inr (.inr (some (w 125))), .inl mi, .inl at_] G M Q := by
  have et := cs_te hr
  obtain ⟨a, rfl⟩ : ∃ a : Nat, at_ = (a : Int) := ⟨at_.toNat, by omega⟩
  refine ⟨Nat.le_of_ble_eq_true rfl, ?_⟩
  show wz (d + 2) mt_X0_stayFrom.2.2.2.2.1 Q mt_X0_stayFrom.2.2.2.2.1 [some (.inr (.inr (some (w 125)))), some (.inl mi), some (.inl (a : Int)), none, none] [] G M _ _
  refine w_iln rfl ?_
  refine w_isn ?_
  refine w_iln rfl ?_
  refine w_is ?_
  exact r_sf ga gb hK hr t1 t3 (12 - mi).toNat mi a LA BE M _ _ (by omega) m0 (by omega) hm hC h
theorem r_mn {G : mj_G} {M0 : mj_M} {w : Nat → Nat} {H : Nat → Int} {Q : mj_P} {d : Nat} (ga : cp_GA G w) (gb : cp_BA M0 w) (hK : cc_K H M0 w) (hr : rv_r4 H 0) (t1 : 1 ≤ H 0) (t3 : H 0 ≤ 3) {M : mj_M} {LA PA BE : Nat → Int} {bp : Int} (hC : cc_C w M0 LA PA BE bp M) {i : Int} (i0 : 0 ≤ i) (i9 : i < ((cs_t H ^ 4 : Nat) : Int)) (h1 : cw_m H LA 4 8 i.toNat → Q (some (.inl 1)) G M) (h0 : ¬ cw_m H LA 4 8 i.toNat → Q (some (.inl 0)) G M) : ∀ (n : Nat) (k : Int) (cb sb : Nat), k + n = H 0 → 0 ≤ k → (∀ j : Nat, (j : Int) < k → LA j ≤ cw_g H j 4 8 i.toNat) → wz d mt_X0_meetsNeeds.2.2.2.2.1 Q (mt_X0_meetsNeeds.2.2.2.2.1.drop 2) [some (.inr (.inr (some (w 125)))), some (.inl i), some (.inl k)] [] G M cb sb := by
  have et := cs_te hr
  have b1 := cs_r1 hr
  have pw := (cw_pow (H := H) (by omega) (by omega)).2.2.2
  intro n
  induction n with
  | zero =>
    intro k cb sb e k0 hk
    refine w_iln rfl ?_
    refine w_aln rfl ?_
    refine w_gi ga.g125 rfl (by decide) rfl ((hC.2.2.1 5 (by decide)).trans hK.1) ?_
    refine w_cmge (fun c1 => ?_) (fun c1 => ?_)
    · skip
      refine w_ic ?_
      exact w_iret (fun _ => Or.inr rfl) (h1 (fun j hj => hk j (by omega)))
    · exfalso; omega
  | succ n ih =>
    intro k cb sb e k0 hk
    refine w_iln rfl ?_
    refine w_aln rfl ?_
    refine w_gi ga.g125 rfl (by decide) rfl ((hC.2.2.1 5 (by decide)).trans hK.1) ?_
    refine w_cmge (fun c1 => ?_) (fun c1 => ?_)
    · exfalso; omega
    · skip
      refine w_aln rfl ?_
      refine w_gr ga.g125 rfl (by decide) rfl (hC.r (gb.r125_12)) ?_
      refine w_iln rfl ?_
      refine w_aald ga.g138 rfl (by show (0 : Int) ≤ k; omega) (by show k < ((3 : Nat) : Int); omega) (hC.r (gb.w139 (by show k.toNat < 3; omega))) ?_
      refine w_iln rfl ?_
      refine w_iald (v := (cw_g H k.toNat 4 8 i.toNat)) (ga.w139 (by show k.toNat < 3; omega)) rfl (by show (0 : Int) ≤ i; omega) (by show i < ((81 : Nat) : Int); omega) ((hC.o (ga.n139 (by omega))).trans (hK.tg (by omega) (by omega))) ?_
      refine w_aln rfl ?_
      refine w_gr ga.g125 rfl (by decide) rfl (hC.r (gb.r125_8)) ?_
      refine w_iln rfl ?_
      refine w_iald (v := (LA k.toNat)) ga.g128 rfl (by show (0 : Int) ≤ k; omega) (by show k < ((3 : Nat) : Int); omega) (hC.2.2.2.2.1 _ (by show k.toNat < 3; omega)) ?_
      refine w_cmge (fun c2 => ?_) (fun c2 => ?_)
      · skip
        refine w_ii rfl ⟨by show (-2147483648 : Int) ≤ k + 1; omega, by show k + 1 < (2147483648 : Int); omega⟩ ?_
        show wz _ _ _ _ [some (.inr (.inr (some (w 125)))), some (.inl i), some (.inl (k + 1))] _ _ _ _ _
        refine w_goto ?_
        exact ih (k + 1) _ _ (by omega) (by omega) (fun j hj => by
                  by_cases ej : (j : Int) = k
                  · rw [show j = k.toNat by omega]; omega
                  · exact hk j (by omega))
      · skip
        refine w_ic ?_
        exact w_iret (fun _ => Or.inl rfl) (h0 (fun z => by have z1 := z k.toNat (by omega); omega))
theorem r_X0_meetsNeeds {G : mj_G} {M0 : mj_M} {w : Nat → Nat} {H : Nat → Int} {Q : mj_P} {d : Nat} (ga : cp_GA G w) (gb : cp_BA M0 w) (hK : cc_K H M0 w) (hr : rv_r4 H 0) (t1 : 1 ≤ H 0) (t3 : H 0 ≤ 3) {M : mj_M} {LA PA BE : Nat → Int} {bp : Int} (hC : cc_C w M0 LA PA BE bp M) {i : Int} (i0 : 0 ≤ i) (i9 : i < ((cs_t H ^ 4 : Nat) : Int)) (h1 : cw_m H LA 4 8 i.toNat → Q (some (.inl 1)) G M) (h0 : ¬ cw_m H LA 4 8 i.toNat → Q (some (.inl 0)) G M) : mj_R mj_tab (d + 1) 9 [.inr (.inr (some (w 125))), .inl i] G M Q := by
  have et := cs_te hr
  refine ⟨Nat.le_of_ble_eq_true rfl, ?_⟩
  show wz d mt_X0_meetsNeeds.2.2.2.2.1 Q mt_X0_meetsNeeds.2.2.2.2.1 [some (.inr (.inr (some (w 125)))), some (.inl i), none] [] G M _ _
  refine w_ic ?_
  refine w_isn ?_
  exact r_mn ga gb hK hr t1 t3 hC i0 i9 h1 h0 (cs_t H) 0 _ _ (by omega) (by decide) (fun j hj => absurd hj (by omega))
theorem cs_idiv {x t z : Int} (h0 : 0 ≤ x) (ht : 0 < t) (hx : mj_in x) (hy : mj_in t) (e : z = (Int32.ofInt x / Int32.ofInt t).toInt) : z = ((x.toNat / t.toNat : Nat) : Int) := by
  have h1 := ab_quo hx hy (by omega : 1 ≤ t)
  rw [e, h1, Int.tdiv_eq_ediv_of_nonneg h0]
  obtain ⟨x, rfl⟩ : ∃ n : Nat, x = (n : Int) := ⟨x.toNat, by omega⟩
  obtain ⟨t, rfl⟩ : ∃ n : Nat, t = (n : Int) := ⟨t.toNat, by omega⟩
  rfl
theorem cs_irem {x t z : Int} (h0 : 0 ≤ x) (ht : 0 < t) (hx : mj_in x) (hy : mj_in t) (e : z = (Int32.ofInt x - Int32.ofInt x / Int32.ofInt t * Int32.ofInt t).toInt) : z = ((x.toNat % t.toNat : Nat) : Int) := by
  have h1 := cs_idiv h0 ht hx hy rfl
  have h2 : Int32.ofInt x / Int32.ofInt t = Int32.ofInt ((x.toNat / t.toNat : Nat) : Int) := by rw [← h1, Int32.ofInt_toInt]
  have h3 := Nat.div_add_mod x.toNat t.toNat
  have h4 : ((x.toNat / t.toNat : Nat) : Int) * t = ((t.toNat * (x.toNat / t.toNat) : Nat) : Int) := by
    rw [Nat.mul_comm, Int.natCast_mul, show ((t.toNat : Nat) : Int) = t by omega]
  have h5 : x - ((x.toNat / t.toNat : Nat) : Int) * t = ((x.toNat % t.toNat : Nat) : Int) := by rw [h4]; omega
  have h6 : x.toNat % t.toNat ≤ x.toNat := Nat.mod_le _ _
  have h7 := hx.2
  rw [e, h2, ← Int32.ofInt_mul, ← Int32.ofInt_sub, h5]
  exact mj_ti ⟨by omega, by omega⟩
theorem r_kt {G : mj_G} {M0 : mj_M} {w : Nat → Nat} {H : Nat → Int} {Q : mj_P} {d : Nat} (ga : cp_GA G w) (gb : cp_BA M0 w) (hK : cc_K H M0 w) (hr : rv_r4 H 0) (t1 : 1 ≤ H 0) (t3 : H 0 ≤ 3) {LA PA : Nat → Int} {bp : Int} {i : Int} (i0 : 0 ≤ i) (i9 : i < ((cs_t H ^ 4 : Nat) : Int)) : ∀ (n : Nat) (mo lf : Int) (BE BE0 : Nat → Int) (M : mj_M) (cb sb : Nat), mo = 7 + n → n ≤ 4 → lf = ((i.toNat / cs_t H ^ (4 - n) : Nat) : Int) → cc_C w M0 LA PA BE bp M → (∀ j : Nat, (j : Int) < 8 → BE j = BE0 j) → (∀ j : Nat, mo < (j : Int) → j < 12 → cs_pc H (BE j) = cw_p H 4 8 i.toNat j ∧ 0 ≤ BE j ∧ BE j < H 0) → (∀ BE2 M2, cc_C w M0 LA PA BE2 bp M2 → (∀ j : Nat, (j : Int) < 8 → BE2 j = BE0 j) → (∀ j : Nat, 8 ≤ j → j < 12 → cs_pc H (BE2 j) = cw_p H 4 8 i.toNat j ∧ 0 ≤ BE2 j ∧ BE2 j < H 0) → Q none G M2) → wz d mt_X0_keepTail.2.2.2.2.1 Q (mt_X0_keepTail.2.2.2.2.1.drop 4) [some (.inr (.inr (some (w 125)))), some (.inl i), some (.inl lf), some (.inl mo)] [] G M cb sb := by
  have et := cs_te hr
  have b1 := cs_r1 hr
  have pw := (cw_pow (H := H) (by omega) (by omega)).2.2.2
  intro n
  induction n with
  | zero =>
    intro mo lf BE BE0 M cb sb e en el hC h1 h2 h
    refine w_iln rfl ?_
    refine w_bp ?_
    refine w_cmlt (fun c1 => ?_) (fun c1 => ?_)
    · skip
      exact w_ret (h BE M hC h1 (fun j h3 h4 => h2 j (by omega) h4))
    · exfalso; omega
  | succ n ih =>
    intro mo lf BE BE0 M cb sb e en el hC h1 h2 h
    have l9 : i.toNat / cs_t H ^ (4 - (n + 1)) ≤ i.toNat := Nat.div_le_self _ _
    have ed := fun z => cw_p_d (H := H) 3 8 i.toNat n z (show i.toNat < cs_t H ^ 4 by omega)
    have e3 : 3 - n = 4 - (n + 1) := by omega
    obtain ⟨lq, hlq⟩ : ∃ q, q = i.toNat / cs_t H ^ (4 - (n + 1)) := ⟨_, rfl⟩
    rw [← hlq] at el l9
    refine w_iln rfl ?_
    refine w_bp ?_
    refine w_cmlt (fun c1 => ?_) (fun c1 => ?_)
    · exfalso; omega
    · skip
      refine w_aln rfl ?_
      refine w_gi ga.g125 rfl (by decide) rfl ((hC.2.2.1 5 (by decide)).trans hK.1) ?_
      refine w_ifle (fun c2 => ?_) (fun c2 => ?_)
      · exfalso; omega
      · skip
        refine w_aln rfl ?_
        refine w_gr ga.g125 rfl (by decide) rfl (hC.r (gb.r125_17)) ?_
        refine w_iln rfl ?_
        refine w_iln rfl ?_
        refine w_aln rfl ?_
        refine w_gi ga.g125 rfl (by decide) rfl ((hC.2.2.1 5 (by decide)).trans hK.1) ?_
        refine w_rem (by omega) ?_
        intro z3 hz3 ez3
        refine w_iast ga.g145 rfl (by decide) (by show (0 : Int) ≤ mo; omega) (by show mo < ((12 : Nat) : Int); omega) ?_
        have qz3 := cs_irem (by omega) (by omega) ⟨by omega, by omega⟩ ⟨by omega, by omega⟩ ez3
        have hC4 := hC.h145 (j := mo.toNat) (v := z3) ga
        refine w_iln rfl ?_
        refine w_aln rfl ?_
        refine w_gi ga.g125 rfl (by decide) rfl ((hC4.2.2.1 5 (by decide)).trans hK.1) ?_
        refine w_div (by omega) ?_
        intro z5 hz5 ez5
        refine w_isn ?_
        show wz _ _ _ _ [some (.inr (.inr (some (w 125)))), some (.inl i), some (.inl z5), some (.inl mo)] _ _ _ _ _
        refine w_ii rfl ⟨by show (-2147483648 : Int) ≤ mo + (-1); omega, by show mo + (-1) < (2147483648 : Int); omega⟩ ?_
        show wz _ _ _ _ [some (.inr (.inr (some (w 125)))), some (.inl i), some (.inl z5), some (.inl (mo + (-1)))] _ _ _ _ _
        refine w_goto ?_
        have qd := cs_idiv (by omega) (by omega) ⟨by omega, by omega⟩ ⟨by omega, by omega⟩ ez5
        have et2 : (H 0).toNat = cs_t H := rfl
        rw [et2, show lf.toNat = lq by omega] at qz3 qd
        have hz : z3.toNat < cs_t H := by rw [qz3]; exact Nat.mod_lt _ (by omega)
        refine ih _ _ _ BE0 _ _ _ (by omega) (by omega) ?_ hC4 (fun j hj => (rv_up_n (by omega)).trans (h1 j hj)) (fun j h3 h4 => ?_) h
        · rw [qd, hlq, Nat.div_div_eq_div_mul, ← Nat.pow_succ, show (4 - (n + 1)).succ = 4 - n by omega]
        by_cases ej : (j : Int) = mo
        · rw [show j = mo.toNat by omega, rv_up_s]
          refine ⟨?_, by omega, by omega⟩
          rw [show mo.toNat = 8 + n by omega, ed (by omega), qz3, cs_pc_n hr, hlq, e3]
        · rw [rv_up_n (by omega)]; exact h2 j (by omega) h4
theorem r_X0_keepTail {G : mj_G} {M0 : mj_M} {w : Nat → Nat} {H : Nat → Int} {Q : mj_P} {d : Nat} (ga : cp_GA G w) (gb : cp_BA M0 w) (hK : cc_K H M0 w) (hr : rv_r4 H 0) (t1 : 1 ≤ H 0) (t3 : H 0 ≤ 3) {M : mj_M} {LA PA BE : Nat → Int} {bp : Int} (hC : cc_C w M0 LA PA BE bp M) {i : Int} (i0 : 0 ≤ i) (i9 : i < ((cs_t H ^ 4 : Nat) : Int)) (h : ∀ BE2 M2, cc_C w M0 LA PA BE2 bp M2 → (∀ j : Nat, (j : Int) < 8 → BE2 j = BE j) → (∀ j : Nat, 8 ≤ j → j < 12 → cs_pc H (BE2 j) = cw_p H 4 8 i.toNat j ∧ 0 ≤ BE2 j ∧ BE2 j < H 0) → Q none G M2) : mj_R mj_tab (d + 1) 5 [.inr (.inr (some (w 125))), .inl i] G M Q := by
  refine ⟨Nat.le_of_ble_eq_true rfl, ?_⟩
  show wz d mt_X0_keepTail.2.2.2.2.1 Q mt_X0_keepTail.2.2.2.2.1 [some (.inr (.inr (some (w 125)))), some (.inl i), none, none] [] G M _ _
  refine w_iln rfl ?_
  refine w_isn ?_
  refine w_bp ?_
  refine w_isn ?_
  exact r_kt ga gb hK hr t1 t3 i0 i9 4 11 i BE BE M _ _ rfl (by decide) (by rw [show 4 - 4 = 0 from rfl, Nat.pow_zero, Nat.div_one]; omega) hC (fun _ _ => rfl) (fun j h3 h4 => by omega) h
end
section
/-! ===== the cheapest letting: the class, month by month (laid by a program) ===== -/
theorem cs_cut_k {b : cs_R} {k lb : Int} {P : Nat → Int} {m : Nat} {a : cs_R} (h0 : ∀ c, cs_le a c → lb ≤ c) (hb : cs_le b (k + lb)) : cs_min b (cs_pre k P m a) = b := by
  obtain ⟨x, e, hx⟩ := hb
  cases a with
  | none => exact cs_min_none b
  | some y =>
    subst e
    show (if k + y.1 < x.1 then _ else some x) = some x
    have : lb ≤ y.1 := h0 y.1 ⟨y, rfl, Int.le_refl _⟩
    exact if_neg (by omega)
theorem cw_c_9 {H : Nat → Int} (h : rv_r4 H 0) (h3 : H 0 ≤ 3) : ∀ (r i : Nat), i < cs_t H ^ (r + 1) → 0 ≤ cw_c H (r + 1) i ∧ cw_c H (r + 1) i ≤ 1296 * r
  | 0, _, _ => ⟨Int.le_refl _, Int.le_refl _⟩
  | r + 1, i, hi => by
    have hp : 0 < cs_t H ^ (r + 1) := Nat.pos_of_ne_zero (fun z => by rw [Nat.pow_succ, z, Nat.zero_mul] at hi; exact absurd hi (Nat.not_lt_zero _))
    have hm := Nat.mod_lt i hp
    have h1 := cw_c_9 h h3 r (i % cs_t H ^ (r + 1)) hm
    have d1 : i / cs_t H ^ (r + 1) < cs_t H := Nat.div_lt_of_lt_mul (by rw [← Nat.pow_succ]; exact hi)
    have d2 : i % cs_t H ^ (r + 1) / cs_t H ^ r < cs_t H := Nat.div_lt_of_lt_mul (by rw [← Nat.pow_succ]; exact hm)
    have h2 := cs_cost_9 h h3 (a := i / cs_t H ^ (r + 1)) (b := i % cs_t H ^ (r + 1) / cs_t H ^ r) (by omega) (by omega)
    show 0 ≤ cw_c H (r + 1) (i % cs_t H ^ (r + 1)) + cs_cost H (i / cs_t H ^ (r + 1)) (i % cs_t H ^ (r + 1) / cs_t H ^ r) ∧ cw_c H (r + 1) (i % cs_t H ^ (r + 1)) + cs_cost H (i / cs_t H ^ (r + 1)) (i % cs_t H ^ (r + 1) / cs_t H ^ r) ≤ _
    omega
/-- a plan in places, as a plan in numbers -/
abbrev cs_pl (H BE : Nat → Int) : Nat → Int := fun j => cs_pc H (BE j)
theorem cs_N.so {far : Int} {P0 : Nat → Int} {b : cs_R} {best k : Int} {PL PL2 : Nat → Int} (h : cs_N far P0 b best PL) (x : Int × (Nat → Int)) (e : x.1 = k) (hk : k < best) (hf : 0 ≤ far) (k0 : 0 ≤ k) (hp : ∀ j, j < 12 → PL2 j = x.2 j) : cs_N far P0 (cs_min b (some x)) k PL2 := by
  rw [h.tk x e hk]
  have := h.b hf
  exact ⟨e, k0, by omega, hp⟩
theorem r_tt {G : mj_G} {M0 : mj_M} {w : Nat → Nat} {H : Nat → Int} {Q : mj_P} {d : Nat} (ga : cp_GA G w) (gb : cp_BA M0 w) (hK : cc_K H M0 w) (hr : rv_r4 H 0) (t1 : 1 ≤ H 0) (t3 : H 0 ≤ 3) {LA PA P : Nat → Int} {P0 : Nat → Int} {b : cs_R} {at_ pd : Int} (a0 : 0 ≤ at_) (a3 : at_ ≤ H 0) (p0 : 0 ≤ pd) (p9 : pd ≤ 20000) (hP : ∀ j, j < 8 → cs_pc H (PA j) = P j) : ∀ (n : Nat) (i : Int) (bi : cs_R) (bp : Int) (BE : Nat → Int) (M : mj_M) (v4 : Option mj_V) (cb sb : Nat), i + n = ((cs_t H ^ 4 : Nat) : Int) → 0 ≤ i → cc_C w M0 LA PA BE bp M → cs_N 1000000 P0 bi bp (cs_pl H BE) → bi = cw_run (H := H) b pd P 3 8 at_.toNat LA i.toNat → (∀ b2 bp2 BE2 M2, cc_C w M0 LA PA BE2 bp2 M2 → cs_N 1000000 P0 b2 bp2 (cs_pl H BE2) → b2 = cw_run (H := H) b pd P 3 8 at_.toNat LA (cs_t H ^ 4) → Q none G M2) → wz (d + 2) mt_X0_tryTails.2.2.2.2.1 Q (mt_X0_tryTails.2.2.2.2.1.drop 2) [some (.inr (.inr (some (w 125)))), some (.inl at_), some (.inl pd), some (.inl i), v4] [] G M cb sb := by
  have et := cs_te hr
  have b1 := cs_r1 hr
  have pw := (cw_pow (H := H) (by omega) (by omega)).2.2.2
  intro n
  induction n with
  | zero =>
    intro i bi bp BE M v4 cb sb e i0 hC hN eb h
    refine w_iln rfl ?_
    refine w_aln rfl ?_
    refine w_gi ga.g125 rfl (by decide) rfl ((hC.2.2.1 15 (by decide)).trans hK.2.2.1) ?_
    refine w_cmge (fun c1 => ?_) (fun c1 => ?_)
    · skip
      exact w_ret (h bi bp BE M hC hN (by rw [eb, show i.toNat = cs_t H ^ 4 by omega]))
    · exfalso; omega
  | succ n ih =>
    intro i bi bp BE M v4 cb sb e i0 hC hN eb h
    have ci : 0 ≤ cw_c H 4 i.toNat ∧ cw_c H 4 i.toNat ≤ 3888 := by
      have q := cw_c_9 hr t3 3 i.toNat (show i.toNat < cs_t H ^ 4 by omega)
      exact ⟨q.1, Int.le_trans q.2 (by decide)⟩
    have bb := hN.b (by decide)
    have hti9 : i.toNat / cs_t H ^ 3 < cs_t H := Nat.div_lt_of_lt_mul (by rw [← Nat.pow_succ]; show i.toNat < cs_t H ^ 4; omega)
    obtain ⟨ti, hti⟩ : ∃ n : Nat, ((i.toNat / cs_t H ^ 3 : Nat) : Int) = (n : Int) := ⟨_, rfl⟩
    have htn : i.toNat / cs_t H ^ 3 = ti := Int.ofNat.inj hti
    have cst := cs_cost_9 hr t3 (a := at_.toNat) (b := ti) (by omega) (by omega)
    have e1 : (i + 1).toNat = i.toNat + 1 := by omega
    have hlo : ∀ c, cs_le (cw_R H 3 8 at_.toNat LA i.toNat) c → cw_c H 4 i.toNat + cs_cost H at_.toNat ti ≤ c := fun c q => by
      obtain ⟨x, q1, q2⟩ := q
      unfold cw_R at q1
      by_cases z : cw_m H LA (3 + 1) 8 i.toNat
      · rw [if_pos z] at q1
        have q3 := congrArg Prod.fst (Option.some.inj q1)
        rw [← htn]
        have q4 : cw_c H 4 i.toNat + cs_cost H at_.toNat (i.toNat / cs_t H ^ 3) = x.1 := q3
        omega
      · rw [if_neg z] at q1; cases q1
    refine w_iln rfl ?_
    refine w_aln rfl ?_
    refine w_gi ga.g125 rfl (by decide) rfl ((hC.2.2.1 15 (by decide)).trans hK.2.2.1) ?_
    refine w_cmge (fun c1 => ?_) (fun c1 => ?_)
    · exfalso; omega
    · skip
      refine w_iln rfl ?_
      refine w_bp ?_
      refine w_cmge (fun c2 => ?_) (fun c2 => ?_)
      · exfalso; omega
      · skip
        refine w_iln rfl ?_
        refine w_aln rfl ?_
        refine w_gr ga.g125 rfl (by decide) rfl (hC.r (gb.r125_13)) ?_
        refine w_iln rfl ?_
        refine w_iald (v := (cw_c H 4 i.toNat)) ga.g142 rfl (by show (0 : Int) ≤ i; omega) (by show i < ((81 : Nat) : Int); omega) ((hC.o ga.n142).trans (hK.tc (by omega))) ?_
        refine w_add ⟨by show (-2147483648 : Int) ≤ pd + (cw_c H 4 i.toNat); omega, by show pd + (cw_c H 4 i.toNat) < (2147483648 : Int); omega⟩ ?_
        refine w_is ?_
        show wz _ _ _ _ [some (.inr (.inr (some (w 125)))), some (.inl at_), some (.inl pd), some (.inl i), some (.inl (pd + (cw_c H 4 i.toNat)))] _ _ _ _ _
        refine w_il rfl ?_
        refine w_aln rfl ?_
        refine w_gi ga.g125 rfl (by decide) rfl (hC.2.2.2.1) ?_
        refine w_cmge (fun c3 => ?_) (fun c3 => ?_)
        · skip
          refine w_ii rfl ⟨by show (-2147483648 : Int) ≤ i + 1; omega, by show i + 1 < (2147483648 : Int); omega⟩ ?_
          show wz _ _ _ _ [some (.inr (.inr (some (w 125)))), some (.inl at_), some (.inl pd), some (.inl (i + 1)), some (.inl (pd + (cw_c H 4 i.toNat)))] _ _ _ _ _
          refine w_goto ?_
          refine ih (i + 1) bi bp BE M _ _ _ (by omega) (by omega) hC hN ?_ h
          rw [e1, cw_run_s, ← eb]
          exact (cs_cut_k (lb := cw_c H 4 i.toNat) (fun c q => by have := hlo c q; omega) (hN.le (by omega) (by omega))).symm
        · skip
          refine w_aln rfl ?_
          refine w_iln rfl ?_
          refine w_cv (st := []) rfl ga.g125 rfl (Nat.le_of_ble_eq_true rfl) (fun kk h => h) (r_X0_meetsNeeds (d := d + 1) ga gb hK hr t1 t3 hC (i := i) (by omega) (by omega) (fun hm => ?_) (fun hm => ?_))
          · skip
            refine w_ifeq (fun c4 => ?_) (fun c4 => ?_)
            · exfalso; omega
            · skip
              refine w_il rfl ?_
              refine w_aln rfl ?_
              refine w_iln rfl ?_
              refine w_aln rfl ?_
              refine w_gr ga.g125 rfl (by decide) rfl (hC.r (gb.r125_14)) ?_
              refine w_iln rfl ?_
              refine w_iald (v := (ti : Int)) ga.g143 rfl (by show (0 : Int) ≤ i; omega) (by show i < ((81 : Nat) : Int); omega) (((hC.o ga.n143).trans (hK.tt (by omega))).trans hti) ?_
              refine w_cv (st := [.inl (pd + (cw_c H 4 i.toNat))]) rfl ga.g125 rfl (Nat.le_of_ble_eq_true rfl) (fun kk h => h) (r_X0_costOf (d := d + 1) ga gb hK hr t1 t3 hC (fr := at_) (to := (ti : Int)) (by omega) (by omega) (by omega) (by omega) ?_)
              show wz _ _ _ _ _ (.inl (cs_cost H at_.toNat ti) :: _) _ _ _ _
              refine w_add ⟨by show (-2147483648 : Int) ≤ (pd + (cw_c H 4 i.toNat)) + (cs_cost H at_.toNat ti); omega, by show (pd + (cw_c H 4 i.toNat)) + (cs_cost H at_.toNat ti) < (2147483648 : Int); omega⟩ ?_
              refine w_is ?_
              show wz _ _ _ _ [some (.inr (.inr (some (w 125)))), some (.inl at_), some (.inl pd), some (.inl i), some (.inl ((pd + (cw_c H 4 i.toNat)) + (cs_cost H at_.toNat ti)))] _ _ _ _ _
              refine w_il rfl ?_
              refine w_aln rfl ?_
              refine w_gi ga.g125 rfl (by decide) rfl (hC.2.2.2.1) ?_
              refine w_cmge (fun c5 => ?_) (fun c5 => ?_)
              · skip
                refine w_ii rfl ⟨by show (-2147483648 : Int) ≤ i + 1; omega, by show i + 1 < (2147483648 : Int); omega⟩ ?_
                show wz _ _ _ _ [some (.inr (.inr (some (w 125)))), some (.inl at_), some (.inl pd), some (.inl (i + 1)), some (.inl ((pd + (cw_c H 4 i.toNat)) + (cs_cost H at_.toNat ti)))] _ _ _ _ _
                refine w_goto ?_
                refine ih (i + 1) bi bp BE M _ _ _ (by omega) (by omega) hC hN ?_ h
                rw [e1, cw_run_s, ← eb]
                exact (cs_cut_k (lb := cw_c H 4 i.toNat + cs_cost H at_.toNat ti) hlo (hN.le (by omega) (by omega))).symm
              · skip
                refine w_aln rfl ?_
                refine w_bp ?_
                refine w_il rfl ?_
                refine w_cv (st := []) rfl ga.g125 rfl (Nat.le_of_ble_eq_true rfl) (fun kk h => h) (r_X0_keepPath (d := d + 1) ga gb hK hr t1 t3 hC (mi := 8) (pd := (pd + (cw_c H 4 i.toNat)) + (cs_cost H at_.toNat ti)) (by decide) (by decide) (fun BE1 M1 hC1 k1 k2 => ?_))
                refine w_aln rfl ?_
                refine w_iln rfl ?_
                refine w_cv (st := []) rfl ga.g125 rfl (Nat.le_of_ble_eq_true rfl) (fun kk h => h) (r_X0_keepTail (d := d + 1) ga gb hK hr t1 t3 hC1 (i := i) (by omega) (by omega) (fun BE2 M2 hC2 k3 k4 => ?_))
                refine w_ii rfl ⟨by show (-2147483648 : Int) ≤ i + 1; omega, by show i + 1 < (2147483648 : Int); omega⟩ ?_
                show wz _ _ _ _ [some (.inr (.inr (some (w 125)))), some (.inl at_), some (.inl pd), some (.inl (i + 1)), some (.inl ((pd + (cw_c H 4 i.toNat)) + (cs_cost H at_.toNat ti)))] _ _ _ _ _
                refine w_goto ?_
                have hR : cw_R H 3 8 at_.toNat LA i.toNat = some (cw_c H 4 i.toNat + cs_cost H at_.toNat ti, cw_p H 4 8 i.toNat) := by
                  unfold cw_R
                  rw [if_pos (show cw_m H LA (3 + 1) 8 i.toNat from hm), htn]
                refine ih (i + 1) (cs_min bi (cs_pre pd P 8 (cw_R H 3 8 at_.toNat LA i.toNat))) _ BE2 M2 _ _ _ (by omega) (by omega) hC2 ?_ (by rw [e1, cw_run_s, ← eb]) h
                rw [hR]
                refine hN.so (pd + (cw_c H 4 i.toNat + cs_cost H at_.toNat ti), fun j => if j < 8 then P j else cw_p H 4 8 i.toNat j) (by show pd + (cw_c H 4 i.toNat + cs_cost H at_.toNat ti) = (pd + (cw_c H 4 i.toNat)) + (cs_cost H at_.toNat ti); omega) (by omega) (by decide) (by omega) (fun j hj => ?_)
                show cs_pc H (BE2 j) = if j < 8 then P j else cw_p H 4 8 i.toNat j
                by_cases ej : j < 8
                · rw [if_pos ej, k3 j (by omega), k1 j (by omega)]; exact hP j ej
                · rw [if_neg ej]; exact (k4 j (by omega) hj).1
          · skip
            refine w_ifeq (fun c6 => ?_) (fun c6 => ?_)
            · skip
              refine w_ii rfl ⟨by show (-2147483648 : Int) ≤ i + 1; omega, by show i + 1 < (2147483648 : Int); omega⟩ ?_
              show wz _ _ _ _ [some (.inr (.inr (some (w 125)))), some (.inl at_), some (.inl pd), some (.inl (i + 1)), some (.inl (pd + (cw_c H 4 i.toNat)))] _ _ _ _ _
              refine w_goto ?_
              refine ih (i + 1) bi bp BE M _ _ _ (by omega) (by omega) hC hN ?_ h
              rw [e1, cw_run_s, ← eb]
              have hR : cw_R H 3 8 at_.toNat LA i.toNat = none := by
                unfold cw_R
                exact if_neg hm
              exact (cs_cut_n hR).symm
            · exfalso; omega
theorem r_X0_tryTails {G : mj_G} {M0 : mj_M} {w : Nat → Nat} {H : Nat → Int} {Q : mj_P} {d : Nat} (ga : cp_GA G w) (gb : cp_BA M0 w) (hK : cc_K H M0 w) (hr : rv_r4 H 0) (t1 : 1 ≤ H 0) (t3 : H 0 ≤ 3) {LA PA P : Nat → Int} {P0 : Nat → Int} {b : cs_R} {at_ pd : Int} (a0 : 0 ≤ at_) (a3 : at_ ≤ H 0) (p0 : 0 ≤ pd) (p9 : pd ≤ 20000) (hP : ∀ j, j < 8 → cs_pc H (PA j) = P j) {BE : Nat → Int} {bp : Int} {M : mj_M} (hC : cc_C w M0 LA PA BE bp M) (hN : cs_N 1000000 P0 b bp (cs_pl H BE)) (h : ∀ b2 bp2 BE2 M2, cc_C w M0 LA PA BE2 bp2 M2 → cs_N 1000000 P0 b2 bp2 (cs_pl H BE2) → b2 = cs_min b (cs_pre pd P 8 (cs_T H 4 8 at_.toNat LA)) → Q none G M2) : mj_R mj_tab (d + 3) 16 [.inr (.inr (some (w 125))), .inl at_, .inl pd] G M Q := by
  refine ⟨Nat.le_of_ble_eq_true rfl, ?_⟩
  show wz (d + 2) mt_X0_tryTails.2.2.2.2.1 Q mt_X0_tryTails.2.2.2.2.1 [some (.inr (.inr (some (w 125)))), some (.inl at_), some (.inl pd), none, none] [] G M _ _
  refine w_ic ?_
  refine w_isn ?_
  refine r_tt ga gb hK hr t1 t3 a0 a3 p0 p9 hP (b := b) (P0 := P0) (cs_t H ^ 4) 0 b bp BE M none _ _ (by omega) (by decide) hC hN ?_ (fun b2 bp2 BE2 M2 g1 g2 g3 => h b2 bp2 BE2 M2 g1 g2 (g3.trans cw_run_e))
  exact cw_run_0.symm
theorem r_X0_tryMonth {G : mj_G} {M0 : mj_M} {w : Nat → Nat} {H : Nat → Int} {d : Nat} (ga : cp_GA G w) (gb : cp_BA M0 w) (hK : cc_K H M0 w) (hr : rv_r4 H 0) (t1 : 1 ≤ H 0) (t3 : H 0 ≤ 3) {P0 : Nat → Int} : ∀ (r : Nat) (mi at_ pd : Int) (P LA PA BE : Nat → Int) (b : cs_R) (bp : Int) (M : mj_M) (Q : mj_P), mi + r = 8 → 0 ≤ mi → 0 ≤ at_ → at_ ≤ H 0 → 0 ≤ pd → pd ≤ 1296 * mi → (∀ j : Nat, (j : Int) < mi → cs_pc H (PA j) = P j) → (∀ k : Nat, (k : Int) < H 0 → -(999 * mi) - 2000 ≤ LA k ∧ LA k ≤ 2000) → cc_C w M0 LA PA BE bp M → cs_N 1000000 P0 b bp (cs_pl H BE) → (∀ b2 bp2 PA2 BE2 M2, cc_C w M0 LA PA2 BE2 bp2 M2 → (∀ j : Nat, (j : Int) < mi → PA2 j = PA j) → cs_N 1000000 P0 b2 bp2 (cs_pl H BE2) → b2 = cs_min b (cs_pre pd P mi.toNat (cs_S H (r + 4) mi.toNat at_.toNat LA)) → Q none G M2) → mj_R mj_tab (d + r + 4) 15 [.inr (.inr (some (w 125))), .inl mi, .inl at_, .inl pd] G M Q := by
  have et := cs_te hr
  have b1 := cs_r1 hr
  have ho := cs_oke hr
  intro r
  induction r with
  | zero =>
    intro mi at_ pd P LA PA BE b bp M Q e m0 a0 a3 p0 p9 hP hl hC hN h
    obtain rfl : mi = 8 := by omega
    have bb := hN.b (by decide)
    have lb := cs_LB_9 hr t3 (b := cs_b LA) (a := at_.toNat) (by omega)
    have lbe := cs_LB_le ho (show cs_t H ≤ 3 by omega) (0 + 4) 8 at_.toNat LA
    refine ⟨Nat.le_of_ble_eq_true rfl, ?_⟩
    show wz (d + 3) mt_X0_tryMonth.2.2.2.2.1 Q mt_X0_tryMonth.2.2.2.2.1 [some (.inr (.inr (some (w 125)))), some (.inl 8), some (.inl at_), some (.inl pd), none] [] G M _ _
    refine w_iln rfl ?_
    refine w_aln rfl ?_
    refine w_iln rfl ?_
    refine w_cv (st := [.inl pd]) rfl ga.g125 rfl (Nat.le_of_ble_eq_true rfl) (fun kk h => h) (r_X0_leastToCome (d := d + 2) ga gb hK hr t1 t3 hC (at_ := at_) (by omega) (by omega) ?_)
    refine w_add ⟨by show (-2147483648 : Int) ≤ pd + (cs_LB H (cs_b LA) at_.toNat); omega, by show pd + (cs_LB H (cs_b LA) at_.toNat) < (2147483648 : Int); omega⟩ ?_
    refine w_aln rfl ?_
    refine w_gi ga.g125 rfl (by decide) rfl (hC.2.2.2.1) ?_
    refine w_cmlt (fun c1 => ?_) (fun c1 => ?_)
    · skip
      refine w_aln rfl ?_
      refine w_cv (st := []) rfl ga.g125 rfl (Nat.le_of_ble_eq_true rfl) (fun kk h => h) (r_X0_lacksAny (d := d + 2) ga gb hK hr t1 t3 hC (fun hlk => ?_) (fun hmet => ?_))
      · skip
        refine w_ifne (fun c2 => ?_) (fun c2 => ?_)
        · skip
          refine w_aln rfl ?_
          refine w_iln rfl ?_
          have hnm : ¬ cs_met H LA := fun q => by obtain ⟨k, k1, k2⟩ := hlk; have := q k k1; omega
          refine w_cv (st := []) rfl ga.g125 rfl (Nat.le_of_ble_eq_true rfl) (fun kk h => h) (r_X0_canBe (d := d + 2) ga gb hK hr t1 t3 hC (mi := 8) (by omega) (by omega) (fun k hk => by have := hl k hk; omega) ?_ (fun hno => ?_))
          · skip
            refine w_ifne (fun c3 => ?_) (fun c3 => ?_)
            · skip
              refine w_iln rfl ?_
              refine w_bp ?_
              refine w_cmlt (fun c4 => ?_) (fun c4 => ?_)
              · exfalso; omega
              · skip
                refine w_aln rfl ?_
                refine w_iln rfl ?_
                refine w_iln rfl ?_
                refine w_cv (st := []) rfl ga.g125 rfl (Nat.le_of_ble_eq_true rfl) (fun kk h => h) (r_X0_tryTails (d := d) ga gb hK hr t1 t3 (b := b) (P := P) (P0 := P0) (at_ := at_) (pd := pd) (by omega) (by omega) (by omega) (by omega) (fun j hj => hP j (by omega)) hC hN (fun b2 bp2 BE2 M2 hCt gt2 gt3 => ?_))
                have eST : cs_S H (0 + 4) 8 at_.toNat LA = cs_T H 4 8 at_.toNat LA := by
                  by_cases z : at_.toNat < cs_t H
                  · exact cs_S_T ho 4 8 _ LA z
                  · rw [show at_.toNat = cs_t H by omega]; exact cs_S_start ho hnm
                exact w_ret (h b2 bp2 PA BE2 M2 hCt (fun _ _ => rfl) gt2 (gt3.trans (by rw [← eST]; rfl)))
            · exfalso; omega
          · skip
            refine w_ifne (fun c5 => ?_) (fun c5 => ?_)
            · exfalso; omega
            · skip
              have hS : cs_S H (0 + 4) (8 : Int).toNat at_.toNat LA = none := by
                rcases hno with ⟨k, k1, k2⟩ | k1
                · exact cs_can_n k1 (by rw [show 12 - (8 : Int).toNat = 0 + 4 by omega] at k2; exact k2)
                · exact cs_can2_n (by rw [show 12 - (8 : Int).toNat = 0 + 4 by omega] at k1; exact k1)
              exact w_ret (h b bp PA BE M hC (fun _ _ => rfl) hN (cs_cut_n hS).symm)
        · exfalso; omega
      · skip
        refine w_ifne (fun c6 => ?_) (fun c6 => ?_)
        · exfalso; omega
        · skip
          refine w_aln rfl ?_
          refine w_iln rfl ?_
          refine w_iln rfl ?_
          refine w_cv (st := []) rfl ga.g125 rfl (Nat.le_of_ble_eq_true rfl) (fun kk h => h) (r_X0_keepPath (d := d + 2) ga gb hK hr t1 t3 hC (mi := 8) (pd := pd) (by omega) (by omega) (fun BE1 M1 hC1 k1 k2 => ?_))
          refine w_aln rfl ?_
          refine w_iln rfl ?_
          refine w_iln rfl ?_
          refine w_cv (st := []) rfl ga.g125 rfl (Nat.le_of_ble_eq_true rfl) (fun kk h => h) (r_X0_stayFrom (d := d) ga gb hK hr t1 t3 hC1 (mi := 8) (at_ := at_) (by omega) (by omega) (by omega) (by omega) hmet (fun BE2 M2 W k3 k4 k5 k6 => ?_))
          have k5' : cs_S H (0 + 4) (8 : Int).toNat at_.toNat LA = some (0, W) := by rw [← k5]; congr 1 <;> omega
          refine w_ret (h _ pd PA BE2 M2 k3 (fun _ _ => rfl) ?_ rfl)
          rw [k5']
          refine hN.so (pd + 0, fun j => if j < (8 : Int).toNat then P j else W j) (by show pd + 0 = pd; omega) (by omega) (by decide) (by omega) (fun j hj => ?_)
          show cs_pc H (BE2 j) = if j < (8 : Int).toNat then P j else W j
          by_cases ej : j < (8 : Int).toNat
          · rw [if_pos ej, k4 j (by omega), k1 j (by omega)]; exact hP j (by omega)
          · rw [if_neg ej]; exact k6 j (by omega) hj
    · skip
      exact w_ret (h b bp PA BE M hC (fun _ _ => rfl) hN (cs_cut_k (lb := (cs_LB H (cs_b LA) at_.toNat)) (fun c q => lbe c q) (hN.le (by omega) (by omega))).symm)
  | succ r ih =>
    intro mi at_ pd P LA PA BE b bp M Q e m0 a0 a3 p0 p9 hP hl hC hN h
    have bb := hN.b (by decide)
    have lb := cs_LB_9 hr t3 (b := cs_b LA) (a := at_.toNat) (by omega)
    have lbe := cs_LB_le ho (show cs_t H ≤ 3 by omega) (r + 1 + 4) mi.toNat at_.toNat LA
    rw [show d + (r + 1) + 4 = d + r + 4 + 1 by omega]
    refine ⟨Nat.le_of_ble_eq_true rfl, ?_⟩
    show wz (d + r + 4) mt_X0_tryMonth.2.2.2.2.1 Q mt_X0_tryMonth.2.2.2.2.1 [some (.inr (.inr (some (w 125)))), some (.inl mi), some (.inl at_), some (.inl pd), none] [] G M _ _
    refine w_iln rfl ?_
    refine w_aln rfl ?_
    refine w_iln rfl ?_
    refine w_cv (st := [.inl pd]) rfl ga.g125 rfl (Nat.le_of_ble_eq_true rfl) (fun kk h => h) (r_X0_leastToCome (d := d + r + 3) ga gb hK hr t1 t3 hC (at_ := at_) (by omega) (by omega) ?_)
    refine w_add ⟨by show (-2147483648 : Int) ≤ pd + (cs_LB H (cs_b LA) at_.toNat); omega, by show pd + (cs_LB H (cs_b LA) at_.toNat) < (2147483648 : Int); omega⟩ ?_
    refine w_aln rfl ?_
    refine w_gi ga.g125 rfl (by decide) rfl (hC.2.2.2.1) ?_
    refine w_cmlt (fun c1 => ?_) (fun c1 => ?_)
    · skip
      refine w_aln rfl ?_
      refine w_cv (st := []) rfl ga.g125 rfl (Nat.le_of_ble_eq_true rfl) (fun kk h => h) (r_X0_lacksAny (d := d + r + 3) ga gb hK hr t1 t3 hC (fun hlk => ?_) (fun hmet => ?_))
      · skip
        refine w_ifne (fun c2 => ?_) (fun c2 => ?_)
        · skip
          refine w_aln rfl ?_
          refine w_iln rfl ?_
          have hnm : ¬ cs_met H LA := fun q => by obtain ⟨k, k1, k2⟩ := hlk; have := q k k1; omega
          refine w_cv (st := []) rfl ga.g125 rfl (Nat.le_of_ble_eq_true rfl) (fun kk h => h) (r_X0_canBe (d := d + r + 3) ga gb hK hr t1 t3 hC (mi := mi) (by omega) (by omega) (fun k hk => by have := hl k hk; omega) ?_ (fun hno => ?_))
          · skip
            refine w_ifne (fun c3 => ?_) (fun c3 => ?_)
            · skip
              refine w_iln rfl ?_
              refine w_bp ?_
              refine w_cmlt (fun c4 => ?_) (fun c4 => ?_)
              · skip
                refine w_ic ?_
                refine w_is ?_
                show wz _ _ _ _ [some (.inr (.inr (some (w 125)))), some (.inl mi), some (.inl at_), some (.inl pd), some (.inl 0)] _ _ _ _ _
                have key : ∀ (n : Nat) (k : Int) (bk : cs_R) (bpk : Int) (PA2 BE2 : Nat → Int) (M2 : mj_M) (cb sb : Nat), k + n = H 0 → 0 ≤ k → cc_C w M0 LA PA2 BE2 bpk M2 → (∀ j : Nat, (j : Int) < mi → PA2 j = PA j) → cs_N 1000000 P0 bk bpk (cs_pl H BE2) → bk = cs_nodeT H b pd P (r + 4) mi.toNat at_.toNat LA k.toNat → wz (d + r + 4) mt_X0_tryMonth.2.2.2.2.1 Q (mt_X0_tryMonth.2.2.2.2.1.drop 36) [some (.inr (.inr (some (w 125)))), some (.inl mi), some (.inl at_), some (.inl pd), some (.inl k)] [] G M2 cb sb := by
                  intro n
                  induction n with
                  | zero =>
                    intro k bk bpk PA2 BE2 M2 cb sb en k0 hC2 hp2 hN2 ebk
                    refine w_il rfl ?_
                    refine w_aln rfl ?_
                    refine w_gi ga.g125 rfl (by decide) rfl ((hC2.2.2.1 5 (by decide)).trans hK.1) ?_
                    refine w_cmge (fun c1 => ?_) (fun c1 => ?_)
                    · skip
                      refine w_ret (h bk bpk PA2 BE2 M2 hC2 hp2 hN2 ?_)
                      rw [ebk, show k.toNat = cs_t H by omega, cs_nodeT_e]
                      have eST : cs_S H (r + 1 + 4) mi.toNat at_.toNat LA = cs_T H (r + 4 + 1) mi.toNat at_.toNat LA := by
                        rw [show r + 1 + 4 = r + 4 + 1 by omega]
                        by_cases z : at_.toNat < cs_t H
                        · exact cs_S_T ho _ _ _ LA z
                        · rw [show at_.toNat = cs_t H by omega]; exact cs_S_start ho hnm
                      rw [eST]
                    · exfalso; omega
                  | succ n ihn =>
                    intro k bk bpk PA2 BE2 M2 cb sb en k0 hC2 hp2 hN2 ebk
                    have bb2 := hN2.b (by decide)
                    have gk := cs_gain_9 hr (k := k.toNat) (m := mi.toNat) (by omega) (by omega)
                    have cst := cs_cost_9 hr t3 (a := at_.toNat) (b := k.toNat) (by omega) (by omega)
                    have hlk2 := hl k.toNat (by omega)
                    have em : (mi + 1).toNat = mi.toNat + 1 := by omega
                    have ek1 : (k + 1).toNat = k.toNat + 1 := by omega
                    refine w_il rfl ?_
                    refine w_aln rfl ?_
                    refine w_gi ga.g125 rfl (by decide) rfl ((hC2.2.2.1 5 (by decide)).trans hK.1) ?_
                    refine w_cmge (fun c1 => ?_) (fun c1 => ?_)
                    · exfalso; omega
                    · skip
                      refine w_aln rfl ?_
                      refine w_gr ga.g125 rfl (by decide) rfl (hC2.r (gb.r125_16)) ?_
                      refine w_iln rfl ?_
                      refine w_il rfl ?_
                      refine w_iast ga.g144 rfl (by decide) (by show (0 : Int) ≤ mi; omega) (by show mi < ((12 : Nat) : Int); omega) ?_
                      have hC2 := hC2.h144 (j := mi.toNat) (v := k) ga
                      refine w_aln rfl ?_
                      refine w_gr ga.g125 rfl (by decide) rfl (hC2.r (gb.r125_8)) ?_
                      refine w_il rfl ?_
                      refine w_dup2 ?_
                      refine w_iald (v := (LA k.toNat)) ga.g128 rfl (by show (0 : Int) ≤ k; omega) (by show k < ((3 : Nat) : Int); omega) (hC2.2.2.2.2.1 _ (by show k.toNat < 3; omega)) ?_
                      refine w_aln rfl ?_
                      refine w_gr ga.g125 rfl (by decide) rfl (hC2.r (gb.r125_9)) ?_
                      refine w_il rfl ?_
                      refine w_aald ga.g129 rfl (by show (0 : Int) ≤ k; omega) (by show k < ((3 : Nat) : Int); omega) (hC2.r (gb.w130 (by show k.toNat < 3; omega))) ?_
                      refine w_iln rfl ?_
                      refine w_iald (v := (cs_gain H k.toNat mi.toNat)) (ga.w130 (by show k.toNat < 3; omega)) rfl (by show (0 : Int) ≤ mi; omega) (by show mi < ((12 : Nat) : Int); omega) ((hC2.o (ga.n130 (by omega))).trans (hK.gn (by omega) (by omega))) ?_
                      refine w_sub ⟨by show (-2147483648 : Int) ≤ (LA k.toNat) - (cs_gain H k.toNat mi.toNat); omega, by show (LA k.toNat) - (cs_gain H k.toNat mi.toNat) < (2147483648 : Int); omega⟩ ?_
                      refine w_iast ga.g128 rfl (by decide) (by show (0 : Int) ≤ k; omega) (by show k < ((3 : Nat) : Int); omega) ?_
                      have hC3 := hC2.h128 (j := k.toNat) (v := (LA k.toNat) - (cs_gain H k.toNat mi.toNat)) ga
                      refine w_aln rfl ?_
                      refine w_iln rfl ?_
                      refine w_ic ?_
                      refine w_add ⟨by show (-2147483648 : Int) ≤ mi + 1; omega, by show mi + 1 < (2147483648 : Int); omega⟩ ?_
                      refine w_il rfl ?_
                      refine w_iln rfl ?_
                      refine w_aln rfl ?_
                      refine w_iln rfl ?_
                      refine w_il rfl ?_
                      refine w_cv (st := [.inl pd, .inl k, .inl (mi + 1), .inr (.inr (some (w 125)))]) rfl ga.g125 rfl (Nat.le_of_ble_eq_true rfl) (fun kk h => h) (r_X0_costOf (d := d + r + 3) ga gb hK hr t1 t3 hC3 (fr := at_) (to := k) (by omega) (by omega) (by omega) (by omega) ?_)
                      refine w_add ⟨by show (-2147483648 : Int) ≤ pd + (cs_cost H at_.toNat k.toNat); omega, by show pd + (cs_cost H at_.toNat k.toNat) < (2147483648 : Int); omega⟩ ?_
                      have hC3 := hC3.la (LA2 := cs_lk H LA k.toNat mi.toNat) (fun j hj => by
                        unfold cs_lk rv_up
                        by_cases ej : j = k.toNat
                        · rw [if_pos ej, if_pos ej, ej]
                        · rw [if_neg ej, if_neg ej])
                      refine w_cv (st := []) rfl ga.g125 rfl (Nat.le_of_ble_eq_true rfl) (fun kk h => h) (ih (mi + 1) k (pd + (cs_cost H at_.toNat k.toNat)) (fun j => if j = mi.toNat then cs_code H k.toNat else P j) (cs_lk H LA k.toNat mi.toNat) _ BE2 bk bpk _ _ (by omega) (by omega) (by omega) (by omega) (by omega) (by omega) (fun j hj => ?_) (fun j hj => ?_) hC3 hN2 (fun b3 bp3 PA3 BE3 M3 hC4 hp3 hN3 e3 => ?_))
                      · by_cases ej : (j : Int) = mi
                        · rw [show j = mi.toNat by omega, rv_up_s, if_pos rfl]; exact cs_pc_i hr k0
                        · rw [rv_up_n (by omega), if_neg (by omega), hp2 j (by omega)]; exact hP j (by omega)
                      · unfold cs_lk; have := hl j hj
                        split
                        · rename_i ej; subst ej; omega
                        · omega
                      have elk : cs_lk H LA k.toNat mi.toNat k.toNat = LA k.toNat - cs_gain H k.toNat mi.toNat := if_pos rfl
                      refine w_aln rfl ?_
                      refine w_gr ga.g125 rfl (by decide) rfl (hC4.r (gb.r125_8)) ?_
                      refine w_il rfl ?_
                      refine w_dup2 ?_
                      refine w_iald (v := ((cs_lk H LA k.toNat mi.toNat) k.toNat)) ga.g128 rfl (by show (0 : Int) ≤ k; omega) (by show k < ((3 : Nat) : Int); omega) (hC4.2.2.2.2.1 _ (by show k.toNat < 3; omega)) ?_
                      refine w_aln rfl ?_
                      refine w_gr ga.g125 rfl (by decide) rfl (hC4.r (gb.r125_9)) ?_
                      refine w_il rfl ?_
                      refine w_aald ga.g129 rfl (by show (0 : Int) ≤ k; omega) (by show k < ((3 : Nat) : Int); omega) (hC4.r (gb.w130 (by show k.toNat < 3; omega))) ?_
                      refine w_iln rfl ?_
                      refine w_iald (v := (cs_gain H k.toNat mi.toNat)) (ga.w130 (by show k.toNat < 3; omega)) rfl (by show (0 : Int) ≤ mi; omega) (by show mi < ((12 : Nat) : Int); omega) ((hC4.o (ga.n130 (by omega))).trans (hK.gn (by omega) (by omega))) ?_
                      refine w_add ⟨by show (-2147483648 : Int) ≤ ((cs_lk H LA k.toNat mi.toNat) k.toNat) + (cs_gain H k.toNat mi.toNat); omega, by show ((cs_lk H LA k.toNat mi.toNat) k.toNat) + (cs_gain H k.toNat mi.toNat) < (2147483648 : Int); omega⟩ ?_
                      refine w_iast ga.g128 rfl (by decide) (by show (0 : Int) ≤ k; omega) (by show k < ((3 : Nat) : Int); omega) ?_
                      have hC4 := hC4.h128 (j := k.toNat) (v := ((cs_lk H LA k.toNat mi.toNat) k.toNat) + (cs_gain H k.toNat mi.toNat)) ga
                      refine w_ii rfl ⟨by show (-2147483648 : Int) ≤ k + 1; omega, by show k + 1 < (2147483648 : Int); omega⟩ ?_
                      show wz _ _ _ _ [some (.inr (.inr (some (w 125)))), some (.inl mi), some (.inl at_), some (.inl pd), some (.inl (k + 1))] _ _ _ _ _
                      refine w_goto ?_
                      have hC6 := hC4.la (LA2 := LA) (fun j hj => by
                        unfold rv_up
                        by_cases ej : j = k.toNat
                        · rw [if_pos ej, ej, elk]; omega
                        · rw [if_neg ej]; exact if_neg ej)
                      refine ihn (k + 1) b3 bp3 PA3 BE3 _ _ _ (by omega) (by omega) hC6 (fun j hj => ?_) hN3 ?_
                      · exact (hp3 j (by omega)).trans ((rv_up_n (by omega)).trans (hp2 j hj))
                      · rw [e3, ek1, cs_nodeT_s, ← ebk, em, cs_S_T ho _ _ _ _ (show k.toNat < cs_t H by omega)]
                exact key (cs_t H) 0 b bp PA BE M _ _ (by omega) (by decide) hC (fun _ _ => rfl) hN (by rw [show (0 : Int).toNat = 0 from rfl, cs_nodeT_0])
              · exfalso; omega
            · exfalso; omega
          · skip
            refine w_ifne (fun c5 => ?_) (fun c5 => ?_)
            · exfalso; omega
            · skip
              have hS : cs_S H (r + 1 + 4) mi.toNat at_.toNat LA = none := by
                rcases hno with ⟨k, k1, k2⟩ | k1
                · exact cs_can_n k1 (by rw [show 12 - mi.toNat = r + 1 + 4 by omega] at k2; exact k2)
                · exact cs_can2_n (by rw [show 12 - mi.toNat = r + 1 + 4 by omega] at k1; exact k1)
              exact w_ret (h b bp PA BE M hC (fun _ _ => rfl) hN (cs_cut_n hS).symm)
        · exfalso; omega
      · skip
        refine w_ifne (fun c6 => ?_) (fun c6 => ?_)
        · exfalso; omega
        · skip
          refine w_aln rfl ?_
          refine w_iln rfl ?_
          refine w_iln rfl ?_
          refine w_cv (st := []) rfl ga.g125 rfl (Nat.le_of_ble_eq_true rfl) (fun kk h => h) (r_X0_keepPath (d := d + r + 3) ga gb hK hr t1 t3 hC (mi := mi) (pd := pd) (by omega) (by omega) (fun BE1 M1 hC1 k1 k2 => ?_))
          refine w_aln rfl ?_
          refine w_iln rfl ?_
          refine w_iln rfl ?_
          refine w_cv (st := []) rfl ga.g125 rfl (Nat.le_of_ble_eq_true rfl) (fun kk h => h) (r_X0_stayFrom (d := d + r + 1) ga gb hK hr t1 t3 hC1 (mi := mi) (at_ := at_) (by omega) (by omega) (by omega) (by omega) hmet (fun BE2 M2 W k3 k4 k5 k6 => ?_))
          have k5' : cs_S H (r + 1 + 4) mi.toNat at_.toNat LA = some (0, W) := by rw [← k5]; congr 1 <;> omega
          refine w_ret (h _ pd PA BE2 M2 k3 (fun _ _ => rfl) ?_ rfl)
          rw [k5']
          refine hN.so (pd + 0, fun j => if j < mi.toNat then P j else W j) (by show pd + 0 = pd; omega) (by omega) (by decide) (by omega) (fun j hj => ?_)
          show cs_pc H (BE2 j) = if j < mi.toNat then P j else W j
          by_cases ej : j < mi.toNat
          · rw [if_pos ej, k4 j (by omega), k1 j (by omega)]; exact hP j (by omega)
          · rw [if_neg ej]; exact k6 j (by omega) hj
    · skip
      exact w_ret (h b bp PA BE M hC (fun _ _ => rfl) hN (cs_cut_k (lb := (cs_LB H (cs_b LA) at_.toNat)) (fun c q => lbe c q) (hN.le (by omega) (by omega))).symm)
end
section
/-! ===== water, as the PLAIN now asks for it (laid by a program) ===== -/
theorem lq_rW {H : Nat → Int} {w : Nat → Nat} {p v j : Nat} {M : mj_M} (h : rv_G4 H 0 w p M) (hv : v < 12) (e : j = 76 + v) : M.1 (w (p + 20)) v = H j := by
  subst e; rw [← h.2.2.2.2.2 v hv, Nat.zero_add]
theorem lq_rT {H : Nat → Int} {w : Nat → Nat} {p t v j : Nat} {M : mj_M} (h : rv_G4 H 0 w p M) (ht : t < 8) (hv : v < 9) (e : j = 4 + 9 * t + v) : M.1 (w (p + 3 + t)) v = H j := by
  subst e; rw [← h.2.2.2.2.1 t v ht hv, Nat.zero_add]
def lr_water (H : Nat → Int) (z1 : Int) : Int := if 0 ≤ z1 ∧ z1 ≤ 11 then H (z1 + 76).toNat else -1
set_option maxRecDepth 100000 in
set_option maxHeartbeats 2000000 in
theorem lr_X11_water {G : mj_G} {M : mj_M} {x m tp s kp bc bt kc kr : Nat} {w : Nat → Nat} {z1 : Int} (hI : lp_I G M x m tp s kp bc bt kc kr w) (hz1 : mj_in z1) : mj_R mj_tab 40 155 [.inr (.inr (some x)), .inl z1] G M (fun r _ _ => r = some (.inl (lr_water (M.1 s) z1))) := by
  obtain ⟨hA, hB, p, q, hN, hG6, -⟩ := hI.J
  have hG := hG6.1
  have hG5 := hG6
  obtain ⟨gpl, gna, gta, gba, gwa, gtr, gbr, itr, ibr, p0, p1, p2, p3, rt, rb⟩ := lq_K hA hB hN.pin.1
  have gx := hI.gx
  have gnw := hA.2.2.1
  have b0 := hI.b0
  have bz1 : (-2147483648 : Int) ≤ z1 ∧ z1 < 2147483648 := hz1
  refine ⟨Nat.le_of_ble_eq_true rfl, ?_⟩
  show wz 39 mt_X11_water.2.2.2.2.1 _ mt_X11_water.2.2.2.2.1 [some (.inr (.inr (some x))), some (.inl z1)] [] G M _ _
  refine w_iln rfl ?_
  refine w_cs (st := []) rfl (Nat.le_of_ble_eq_true rfl) (fun kk h => h) ⟨Nat.le_of_ble_eq_true rfl, ?_⟩
  show wz (38) mt_X11_isMonth.2.2.2.2.1 _ mt_X11_isMonth.2.2.2.2.1 [some (.inl z1)] [] _ _ _ _
  refine w_iln rfl ?_
  refine w_iflt (fun c1 => ?_) (fun c1 => ?_)
  · skip
    refine w_ic ?_
    refine w_iret (fun _ => Or.inl rfl) ?_
    refine w_ifeq (fun c2 => ?_) (fun c2 => ?_)
    · skip
      refine w_ic ?_
      exact w_iret (fun q => by cases q) (by show some (Sum.inl _) = some (Sum.inl _); unfold lr_water; split <;> first | rfl | (exfalso; omega))
    · exfalso; omega
  · skip
    refine w_iln rfl ?_
    refine w_bp ?_
    refine w_cmge (fun c3 => ?_) (fun c3 => ?_)
    · skip
      refine w_ic ?_
      refine w_iret (fun _ => Or.inl rfl) ?_
      refine w_ifeq (fun c4 => ?_) (fun c4 => ?_)
      · skip
        refine w_ic ?_
        exact w_iret (fun q => by cases q) (by show some (Sum.inl _) = some (Sum.inl _); unfold lr_water; split <;> first | rfl | (exfalso; omega))
      · exfalso; omega
    · skip
      refine w_ic ?_
      refine w_goto ?_
      refine w_iret (fun _ => Or.inr rfl) ?_
      refine w_ifeq (fun c5 => ?_) (fun c5 => ?_)
      · exfalso; omega
      · skip
        refine w_aln rfl ?_
        refine w_gr gx rfl (by decide) rfl (hB.2.1) ?_
        refine w_gr gnw rfl (by decide) rfl (hN.1) ?_
        refine w_gr gpl rfl (by decide) rfl (p3) ?_
        refine w_iln rfl ?_
        refine w_iald (v := (M.1 s (z1 + 76).toNat)) gwa rfl (by show (0 : Int) ≤ z1; omega) (by show z1 < ((12 : Nat) : Int); omega) (lq_rW hG (by show z1.toNat < 12; omega) (by show (z1 + 76).toNat = 76 + z1.toNat; omega)) ?_
        refine w_goto ?_
        exact w_iret (fun q => by cases q) (by show some (Sum.inl _) = some (Sum.inl _); unfold lr_water; split <;> first | rfl | (exfalso; omega))
set_option maxRecDepth 100000 in
set_option maxHeartbeats 2000000 in
theorem lr_X12_water {G : mj_G} {M : mj_M} {x m tp s kp bc bt kc kr : Nat} {w : Nat → Nat} {z1 : Int} (hI : lp_I G M x m tp s kp bc bt kc kr w) (hz1 : mj_in z1) : mj_R mj_tab 40 256 [.inr (.inr (some m)), .inl z1] G M (fun r _ _ => r = some (.inl (lr_water (M.1 s) z1))) := by
  have gm := hI.gm
  have gs := hI.gs
  have m6 := hI.m6
  have b0 := hI.b0
  have bz1 : (-2147483648 : Int) ≤ z1 ∧ z1 < 2147483648 := hz1
  refine ⟨Nat.le_of_ble_eq_true rfl, ?_⟩
  show wz 39 mt_X12_water.2.2.2.2.1 _ mt_X12_water.2.2.2.2.1 [some (.inr (.inr (some m))), some (.inl z1)] [] G M _ _
  refine w_aln rfl ?_
  refine w_ic ?_
  refine w_pi gm rfl (by decide) rfl (fun q => by cases q) ?_
  refine w_iln rfl ?_
  refine w_cs (st := []) rfl (Nat.le_of_ble_eq_true rfl) (fun kk h => h) ⟨Nat.le_of_ble_eq_true rfl, ?_⟩
  show wz (38) mt_X12_isMonth.2.2.2.2.1 _ mt_X12_isMonth.2.2.2.2.1 [some (.inl z1)] [] _ _ _ _
  refine w_iln rfl ?_
  refine w_ic ?_
  refine w_bp ?_
  refine w_cs (st := []) rfl (Nat.le_of_ble_eq_true rfl) (fun kk h => h) ⟨Nat.le_of_ble_eq_true rfl, ?_⟩
  show wz (37) mt_X12_isIn.2.2.2.2.1 _ mt_X12_isIn.2.2.2.2.1 [some (.inl z1), some (.inl 0), some (.inl 11)] [] _ _ _ _
  refine w_iln rfl ?_
  refine w_iln rfl ?_
  refine w_cmlt (fun c1 => ?_) (fun c1 => ?_)
  · skip
    refine w_ic ?_
    refine w_iret (fun _ => Or.inl rfl) ?_
    refine w_iret (fun _ => Or.inl rfl) ?_
    refine w_ifeq (fun c2 => ?_) (fun c2 => ?_)
    · skip
      refine w_ic ?_
      exact w_iret (fun q => by cases q) (by show some (Sum.inl _) = some (Sum.inl _); unfold lr_water; split <;> first | rfl | (exfalso; omega))
    · exfalso; omega
  · skip
    refine w_iln rfl ?_
    refine w_iln rfl ?_
    refine w_cmgt (fun c3 => ?_) (fun c3 => ?_)
    · skip
      refine w_ic ?_
      refine w_iret (fun _ => Or.inl rfl) ?_
      refine w_iret (fun _ => Or.inl rfl) ?_
      refine w_ifeq (fun c4 => ?_) (fun c4 => ?_)
      · skip
        refine w_ic ?_
        exact w_iret (fun q => by cases q) (by show some (Sum.inl _) = some (Sum.inl _); unfold lr_water; split <;> first | rfl | (exfalso; omega))
      · exfalso; omega
    · skip
      refine w_ic ?_
      refine w_goto ?_
      refine w_iret (fun _ => Or.inr rfl) ?_
      refine w_iret (fun _ => Or.inr rfl) ?_
      refine w_ifeq (fun c5 => ?_) (fun c5 => ?_)
      · exfalso; omega
      · skip
        refine w_aln rfl ?_
        refine w_gr gm rfl (by decide) rfl (m6) ?_
        refine w_bp ?_
        refine w_iln rfl ?_
        refine w_add ⟨by show (-2147483648 : Int) ≤ 76 + z1; omega, by show 76 + z1 < (2147483648 : Int); omega⟩ ?_
        refine w_iald (v := (M.1 s (z1 + 76).toNat)) gs rfl (by show (0 : Int) ≤ 76 + z1; omega) (by show 76 + z1 < ((537 : Nat) : Int); omega) ((hn_n (Or.inl (hn_ne gs gm (by decide)))).trans (congrArg (M.1 s) (by show (76 + z1).toNat = (z1 + 76).toNat; omega))) ?_
        refine w_goto ?_
        exact w_iret (fun q => by cases q) (by show some (Sum.inl _) = some (Sum.inl _); unfold lr_water; split <;> first | rfl | (exfalso; omega))
end
