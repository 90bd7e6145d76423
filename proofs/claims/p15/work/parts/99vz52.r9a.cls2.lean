/-! ===== the cheapest letting: the class, its search (laid by a program) ===== -/
theorem r_kp {G : mj_G} {M0 : mj_M} {w : Nat → Nat} {H : Nat → Int} {Q : mj_P} {d : Nat} (ga : cp_GA G w) (gb : cp_BA M0 w) (hK : cc_K H M0 w) (hr : rv_r4 H 0) (t1 : 1 ≤ H 0) (t3 : H 0 ≤ 3) {M : mj_M} {LA PA : Nat → Int} {mi pd : Int} (m0 : 0 ≤ mi) (m12 : mi ≤ 12) : ∀ (n : Nat) (i : Int) (BE BE0 : Nat → Int) (M : mj_M) (cb sb : Nat), i + n = mi → 0 ≤ i → cc_C w M0 LA PA BE pd M → (∀ j : Nat, (j : Int) < i → BE j = PA j) → (∀ j : Nat, i ≤ (j : Int) → BE j = BE0 j) → (∀ BE M, cc_C w M0 LA PA BE pd M → (∀ j : Nat, (j : Int) < mi → BE j = PA j) → (∀ j : Nat, mi ≤ (j : Int) → BE j = BE0 j) → Q none G M) → wz d mt_X0_keepPath.2.2.2.2.1 Q (mt_X0_keepPath.2.2.2.2.1.drop 5) [some (.inr (.inr (some (w 125)))), some (.inl mi), some (.inl pd), some (.inl i)] [] G M cb sb := by
  intro n
  induction n with
  | zero =>
    intro i BE BE0 M cb sb e i0 hC h1 h2 h
    refine w_iln rfl ?_
    refine w_iln rfl ?_
    refine w_cmge (fun c1 => ?_) (fun c1 => ?_)
    · skip
      exact w_ret (h BE M hC (fun j hj => h1 j (by omega)) (fun j hj => h2 j (by omega)))
    · exfalso; omega
  | succ n ih =>
    intro i BE BE0 M cb sb e i0 hC h1 h2 h
    refine w_iln rfl ?_
    refine w_iln rfl ?_
    refine w_cmge (fun c1 => ?_) (fun c1 => ?_)
    · exfalso; omega
    · skip
      refine w_iln rfl ?_
      refine w_bp ?_
      refine w_cmge (fun c2 => ?_) (fun c2 => ?_)
      · exfalso; omega
      · skip
        refine w_aln rfl ?_
        refine w_gr ga.g125 rfl (by decide) rfl (hC.r (gb.r125_17)) ?_
        refine w_iln rfl ?_
        refine w_aln rfl ?_
        refine w_gr ga.g125 rfl (by decide) rfl (hC.r (gb.r125_16)) ?_
        refine w_iln rfl ?_
        refine w_iald (v := (PA i.toNat)) ga.g144 rfl (by show (0 : Int) ≤ i; omega) (by show i < ((12 : Nat) : Int); omega) (hC.2.2.2.2.2.1 _ (by show i.toNat < 12; omega)) ?_
        refine w_iast ga.g145 rfl (by decide) (by show (0 : Int) ≤ i; omega) (by show i < ((12 : Nat) : Int); omega) ?_
        have hC3 := hC.h145 (j := i.toNat) (v := (PA i.toNat)) ga
        refine w_ii rfl ⟨by show (-2147483648 : Int) ≤ i + 1; omega, by show i + 1 < (2147483648 : Int); omega⟩ ?_
        show wz _ _ _ _ [some (.inr (.inr (some (w 125)))), some (.inl mi), some (.inl pd), some (.inl (i + 1))] _ _ _ _ _
        refine w_goto ?_
        refine ih (i + 1) _ BE0 _ _ _ (by omega) (by omega) hC3 (fun j hj => ?_) (fun j hj => (rv_up_n (by omega)).trans (h2 j (by omega))) h
        by_cases ej : (j : Int) = i
        · rw [show j = i.toNat by omega, rv_up_s]
        · exact (rv_up_n (by omega)).trans (h1 j (by omega))
theorem r_X0_keepPath {G : mj_G} {M0 : mj_M} {w : Nat → Nat} {H : Nat → Int} {Q : mj_P} {d : Nat} (ga : cp_GA G w) (gb : cp_BA M0 w) (hK : cc_K H M0 w) (hr : rv_r4 H 0) (t1 : 1 ≤ H 0) (t3 : H 0 ≤ 3) {M : mj_M} {LA PA BE : Nat → Int} {bp : Int} (hC : cc_C w M0 LA PA BE bp M) {mi pd : Int} (m0 : 0 ≤ mi) (m12 : mi ≤ 12) (h : ∀ BE2 M2, cc_C w M0 LA PA BE2 pd M2 → (∀ j : Nat, (j : Int) < mi → BE2 j = PA j) → (∀ j : Nat, mi ≤ (j : Int) → BE2 j = BE j) → Q none G M2) : mj_R mj_tab (d + 1) 4 [.inr (.inr (some (w 125))), .inl mi, .inl pd] G M Q := by
  refine ⟨Nat.le_of_ble_eq_true rfl, ?_⟩
  show wz d mt_X0_keepPath.2.2.2.2.1 Q mt_X0_keepPath.2.2.2.2.1 [some (.inr (.inr (some (w 125)))), some (.inl mi), some (.inl pd), none] [] G M _ _
  refine w_aln rfl ?_
  refine w_iln rfl ?_
  refine w_pi ga.g125 rfl (by decide) rfl (fun q => by cases q) ?_
  refine w_ic ?_
  refine w_isn ?_
  exact r_kp ga gb hK hr t1 t3 (M := M) m0 m12 mi.toNat 0 BE BE _ _ _ (by omega) (by decide) (hC.h18 ga) (fun j hj => absurd hj (by omega)) (fun _ _ => rfl) h
theorem r_ff {G : mj_G} {M0 : mj_M} {w : Nat → Nat} {H : Nat → Int} {Q : mj_P} {d : Nat} (ga : cp_GA G w) (gb : cp_BA M0 w) (hK : cc_K H M0 w) (hr : rv_r4 H 0) (t1 : 1 ≤ H 0) (t3 : H 0 ≤ 3) {M : mj_M} {LA PA BE : Nat → Int} {bp : Int} (hC : cc_C w M0 LA PA BE bp M) {fr : Int} (f0 : 0 ≤ fr) (f3 : fr ≤ H 0) (h : ∀ p : Nat, p ≤ cs_t H → cs_cost H fr.toNat p = 0 → (∀ j, j < p → cs_cost H fr.toNat j ≠ 0) → Q (some (.inl (p : Int))) G M) : ∀ (n : Nat) (k : Int) (cb sb : Nat), k + n = H 0 → 0 ≤ k → (∀ j : Nat, (j : Int) < k → cs_cost H fr.toNat j ≠ 0) → wz (d + 1) mt_X0_firstForNothing.2.2.2.2.1 Q (mt_X0_firstForNothing.2.2.2.2.1.drop 2) [some (.inr (.inr (some (w 125)))), some (.inl fr), some (.inl k)] [] G M cb sb := by
  have et := cs_te hr
  have b1 := cs_r1 hr
  intro n
  induction n with
  | zero =>
    intro k cb sb e k0 hk
    have hfr : fr = H 0 := by
      rcases (by omega : fr = H 0 ∨ fr < H 0) with z | z
      · exact z
      · exact absurd (cs_cost_s (H := H) fr.toNat) (hk fr.toNat (by omega))
    refine w_iln rfl ?_
    refine w_aln rfl ?_
    refine w_gi ga.g125 rfl (by decide) rfl ((hC.2.2.1 5 (by decide)).trans hK.1) ?_
    refine w_cmge (fun c1 => ?_) (fun c1 => ?_)
    · skip
      refine w_iln rfl ?_
      have h9 := h fr.toNat (by omega) (cs_cost_s _) (fun j hj => hk j (by omega))
      rw [show ((fr.toNat : Nat) : Int) = fr by omega] at h9
      exact w_iret (fun q => by cases q) h9
    · exfalso; omega
  | succ n ih =>
    intro k cb sb e k0 hk
    refine w_iln rfl ?_
    refine w_aln rfl ?_
    refine w_gi ga.g125 rfl (by decide) rfl ((hC.2.2.1 5 (by decide)).trans hK.1) ?_
    refine w_cmge (fun c1 => ?_) (fun c1 => ?_)
    · exfalso; omega
    · skip
      refine w_aln rfl ?_
      refine w_iln rfl ?_
      refine w_iln rfl ?_
      have cb2 := cs_cost_9 hr t3 (a := fr.toNat) (b := k.toNat) (by omega) (by omega)
      refine w_cv (st := []) rfl ga.g125 rfl (Nat.le_of_ble_eq_true rfl) (fun kk h => h) (r_X0_costOf (d := d) ga gb hK hr t1 t3 hC (fr := fr) (to := k) (by omega) (by omega) (by omega) (by omega) ?_)
      refine w_ifne (fun c3 => ?_) (fun c3 => ?_)
      · skip
        refine w_ii rfl ⟨by show (-2147483648 : Int) ≤ k + 1; omega, by show k + 1 < (2147483648 : Int); omega⟩ ?_
        show wz _ _ _ _ [some (.inr (.inr (some (w 125)))), some (.inl fr), some (.inl (k + 1))] _ _ _ _ _
        refine w_goto ?_
        exact ih (k + 1) _ _ (by omega) (by omega) (fun j hj => by
                  by_cases ej : (j : Int) = k
                  · rw [show j = k.toNat by omega]; omega
                  · exact hk j (by omega))
      · skip
        refine w_iln rfl ?_
        have h9 := h k.toNat (by omega) (by omega) (fun j hj => hk j (by omega))
        rw [show ((k.toNat : Nat) : Int) = k by omega] at h9
        exact w_iret (fun q => by cases q) h9
theorem r_X0_firstForNothing {G : mj_G} {M0 : mj_M} {w : Nat → Nat} {H : Nat → Int} {Q : mj_P} {d : Nat} (ga : cp_GA G w) (gb : cp_BA M0 w) (hK : cc_K H M0 w) (hr : rv_r4 H 0) (t1 : 1 ≤ H 0) (t3 : H 0 ≤ 3) {M : mj_M} {LA PA BE : Nat → Int} {bp : Int} (hC : cc_C w M0 LA PA BE bp M) {fr : Int} (f0 : 0 ≤ fr) (f3 : fr ≤ H 0) (h : ∀ p : Nat, p ≤ cs_t H → cs_cost H fr.toNat p = 0 → (∀ j, j < p → cs_cost H fr.toNat j ≠ 0) → Q (some (.inl (p : Int))) G M) : mj_R mj_tab (d + 2) 2 [.inr (.inr (some (w 125))), .inl fr] G M Q := by
  have et := cs_te hr
  refine ⟨Nat.le_of_ble_eq_true rfl, ?_⟩
  show wz (d + 1) mt_X0_firstForNothing.2.2.2.2.1 Q mt_X0_firstForNothing.2.2.2.2.1 [some (.inr (.inr (some (w 125)))), some (.inl fr), none] [] G M _ _
  refine w_ic ?_
  refine w_isn ?_
  exact r_ff ga gb hK hr t1 t3 hC f0 f3 h (cs_t H) 0 _ _ (by omega) (by decide) (fun j hj => absurd hj (by omega))
theorem r_sf {G : mj_G} {M0 : mj_M} {w : Nat → Nat} {H : Nat → Int} {Q : mj_P} {d : Nat} (ga : cp_GA G w) (gb : cp_BA M0 w) (hK : cc_K H M0 w) (hr : rv_r4 H 0) (t1 : 1 ≤ H 0) (t3 : H 0 ≤ 3) {LA PA : Nat → Int} {bp mi at_ : Int} : ∀ (n : Nat) (i : Int) (pl : Nat) (L : Nat → Int) (BE : Nat → Int) (M : mj_M) (cb sb : Nat), i + n = 12 → 0 ≤ i → pl ≤ cs_t H → cs_met H L → cc_C w M0 LA PA BE bp M → (∀ BE2 M2 W, cc_C w M0 LA PA BE2 bp M2 → (∀ j : Nat, (j : Int) < i → BE2 j = BE j) → cs_S H n i.toNat pl L = some (0, W) → (∀ j : Nat, i ≤ (j : Int) → j < 12 → cs_pc H (BE2 j) = W j) → Q none G M2) → wz (d + 2) mt_X0_stayFrom.2.2.2.2.1 Q (mt_X0_stayFrom.2.2.2.2.1.drop 4) [some (.inr (.inr (some (w 125)))), some (.inl mi), some (.inl at_), some (.inl (pl : Int)), some (.inl i)] [] G M cb sb := by
  have et := cs_te hr
  have b1 := cs_r1 hr
  have ho := cs_oke hr
  intro n
  induction n with
  | zero =>
    intro i pl L BE M cb sb e i0 hp hm hC h
    refine w_il rfl ?_
    refine w_bp ?_
    refine w_cmge (fun c1 => ?_) (fun c1 => ?_)
    · skip
      exact w_ret (h BE M (fun _ => 0) hC (fun _ _ => rfl) (if_pos hm) (fun j h1 h2 => by omega))
    · exfalso; omega
  | succ n ih =>
    intro i pl L BE M cb sb e i0 hp hm hC h
    refine w_il rfl ?_
    refine w_bp ?_
    refine w_cmge (fun c1 => ?_) (fun c1 => ?_)
    · exfalso; omega
    · skip
      refine w_aln rfl ?_
      refine w_iln rfl ?_
      refine w_cv (st := []) rfl ga.g125 rfl (Nat.le_of_ble_eq_true rfl) (fun kk h => h) (r_X0_firstForNothing (d := d) ga gb hK hr t1 t3 hC (fr := (pl : Int)) (by omega) (by omega) (fun p q1 q2 q3 => ?_))
      refine w_isn ?_
      show wz _ _ _ _ [some (.inr (.inr (some (w 125)))), some (.inl mi), some (.inl at_), some (.inl (p : Int)), some (.inl i)] _ _ _ _ _
      refine w_aln rfl ?_
      refine w_gr ga.g125 rfl (by decide) rfl (hC.r (gb.r125_17)) ?_
      refine w_il rfl ?_
      refine w_iln rfl ?_
      refine w_iast ga.g145 rfl (by decide) (by show (0 : Int) ≤ i; omega) (by show i < ((12 : Nat) : Int); omega) ?_
      have hC2 := hC.h145 (j := i.toNat) (v := (p : Int)) ga
      refine w_ii rfl ⟨by show (-2147483648 : Int) ≤ i + 1; omega, by show i + 1 < (2147483648 : Int); omega⟩ ?_
      show wz _ _ _ _ [some (.inr (.inr (some (w 125)))), some (.inl mi), some (.inl at_), some (.inl (p : Int)), some (.inl (i + 1))] _ _ _ _ _
      refine w_goto ?_
      have hm2 : cs_met H (cs_lk H L p i.toNat) := fun k hk => Int.le_trans (cs_lk_le L p i.toNat k) (hm k hk)
      have es := cs_met_step ho (r := n) (m := i.toNat) (a := pl) hm (show p < cs_t H + 1 by omega) q2 q3
      refine ih (i + 1) p (cs_lk H L p i.toNat) _ _ _ _ (by omega) (by omega) q1 hm2 hC2 (fun BE2 M2 W g1 g2 g3 g4 => ?_)
      rw [show (i + 1).toNat = i.toNat + 1 by omega] at g3
      rw [g3] at es
      refine h BE2 M2 (fun j => if j = i.toNat then cs_code H p else W j) g1 (fun j hj => (g2 j (by omega)).trans (rv_up_n (by omega))) es (fun j h1 h2 => ?_)
      by_cases ej : j = i.toNat
      · rw [if_pos ej, g2 j (by omega), ej, rv_up_s]; exact cs_pc_n hr p
      · rw [if_neg ej]; exact g4 j (by omega) h2
theorem r_X0_stayFrom {G : mj_G} {M0 : mj_M} {w : Nat → Nat} {H : Nat → Int} {Q : mj_P} {d : Nat} (ga : cp_GA G w) (gb : cp_BA M0 w) (hK : cc_K H M0 w) (hr : rv_r4 H 0) (t1 : 1 ≤ H 0) (t3 : H 0 ≤ 3) {M : mj_M} {LA PA BE : Nat → Int} {bp : Int} (hC : cc_C w M0 LA PA BE bp M) {mi at_ : Int} (m0 : 0 ≤ mi) (m12 : mi ≤ 12) (a0 : 0 ≤ at_) (a3 : at_ ≤ H 0) (hm : cs_met H LA) (h : ∀ BE2 M2 W, cc_C w M0 LA PA BE2 bp M2 → (∀ j : Nat, (j : Int) < mi → BE2 j = BE j) → cs_S H (12 - mi).toNat mi.toNat at_.toNat LA = some (0, W) → (∀ j : Nat, mi ≤ (j : Int) → j < 12 → cs_pc H (BE2 j) = W j) → Q none G M2) : mj_R mj_tab (d + 3) 14 [.inr (.inr (some (w 125))), .inl mi, .inl at_] G M Q := by
  have et := cs_te hr
  obtain ⟨a, rfl⟩ : ∃ a : Nat, at_ = (a : Int) := ⟨at_.toNat, by omega⟩
  refine ⟨Nat.le_of_ble_eq_true rfl, ?_⟩
  show wz (d + 2) mt_X0_stayFrom.2.2.2.2.1 Q mt_X0_stayFrom.2.2.2.2.1 [some (.inr (.inr (some (w 125)))), some (.inl mi), some (.inl (a : Int)), none, none] [] G M _ _
  refine w_iln rfl ?_
  refine w_isn ?_
  refine w_iln rfl ?_
  refine w_is ?_
  exact r_sf ga gb hK hr t1 t3 (12 - mi).toNat mi a LA BE M _ _ (by omega) m0 (by omega) hm hC h
theorem r_mn {G : mj_G} {M0 : mj_M} {w : Nat → Nat} {H : Nat → Int} {Q : mj_P} {d : Nat} (ga : cp_GA G w) (gb : cp_BA M0 w) (hK : cc_K H M0 w) (hr : rv_r4 H 0) (t1 : 1 ≤ H 0) (t3 : H 0 ≤ 3) {M : mj_M} {LA PA BE : Nat → Int} {bp : Int} (hC : cc_C w M0 LA PA BE bp M) {i : Int} (i0 : 0 ≤ i) (i9 : i < ((cs_t H ^ 4 : Nat) : Int)) (h1 : cw_m H LA 4 8 i.toNat → Q (some (.inl 1)) G M) (h0 : ¬ cw_m H LA 4 8 i.toNat → Q (some (.inl 0)) G M) : ∀ (n : Nat) (k : Int) (cb sb : Nat), k + n = H 0 → 0 ≤ k → (∀ j : Nat, (j : Int) < k → LA j ≤ cw_g H j 4 8 i.toNat) → wz d mt_X0_meetsNeeds.2.2.2.2.1 Q (mt_X0_meetsNeeds.2.2.2.2.1.drop 2) [some (.inr (.inr (some (w 125)))), some (.inl i), some (.inl k)] [] G M cb sb := by
  have et := cs_te hr
  have b1 := cs_r1 hr
  have pw := (cw_pow (H := H) (by omega) (by omega)).2.2.2
  intro n
  induction n with
  | zero =>
    intro k cb sb e k0 hk
    refine w_iln rfl ?_
    refine w_aln rfl ?_
    refine w_gi ga.g125 rfl (by decide) rfl ((hC.2.2.1 5 (by decide)).trans hK.1) ?_
    refine w_cmge (fun c1 => ?_) (fun c1 => ?_)
    · skip
      refine w_ic ?_
      exact w_iret (fun _ => Or.inr rfl) (h1 (fun j hj => hk j (by omega)))
    · exfalso; omega
  | succ n ih =>
    intro k cb sb e k0 hk
    refine w_iln rfl ?_
    refine w_aln rfl ?_
    refine w_gi ga.g125 rfl (by decide) rfl ((hC.2.2.1 5 (by decide)).trans hK.1) ?_
    refine w_cmge (fun c1 => ?_) (fun c1 => ?_)
    · exfalso; omega
    · skip
      refine w_aln rfl ?_
      refine w_gr ga.g125 rfl (by decide) rfl (hC.r (gb.r125_12)) ?_
      refine w_iln rfl ?_
      refine w_aald ga.g138 rfl (by show (0 : Int) ≤ k; omega) (by show k < ((3 : Nat) : Int); omega) (hC.r (gb.w139 (by show k.toNat < 3; omega))) ?_
      refine w_iln rfl ?_
      refine w_iald (v := (cw_g H k.toNat 4 8 i.toNat)) (ga.w139 (by show k.toNat < 3; omega)) rfl (by show (0 : Int) ≤ i; omega) (by show i < ((81 : Nat) : Int); omega) ((hC.o (ga.n139 (by omega))).trans (hK.tg (by omega) (by omega))) ?_
      refine w_aln rfl ?_
      refine w_gr ga.g125 rfl (by decide) rfl (hC.r (gb.r125_8)) ?_
      refine w_iln rfl ?_
      refine w_iald (v := (LA k.toNat)) ga.g128 rfl (by show (0 : Int) ≤ k; omega) (by show k < ((3 : Nat) : Int); omega) (hC.2.2.2.2.1 _ (by show k.toNat < 3; omega)) ?_
      refine w_cmge (fun c2 => ?_) (fun c2 => ?_)
      · skip
        refine w_ii rfl ⟨by show (-2147483648 : Int) ≤ k + 1; omega, by show k + 1 < (2147483648 : Int); omega⟩ ?_
        show wz _ _ _ _ [some (.inr (.inr (some (w 125)))), some (.inl i), some (.inl (k + 1))] _ _ _ _ _
        refine w_goto ?_
        exact ih (k + 1) _ _ (by omega) (by omega) (fun j hj => by
                  by_cases ej : (j : Int) = k
                  · rw [show j = k.toNat by omega]; omega
                  · exact hk j (by omega))
      · skip
        refine w_ic ?_
        exact w_iret (fun _ => Or.inl rfl) (h0 (fun z => by have z1 := z k.toNat (by omega); omega))
theorem r_X0_meetsNeeds {G : mj_G} {M0 : mj_M} {w : Nat → Nat} {H : Nat → Int} {Q : mj_P} {d : Nat} (ga : cp_GA G w) (gb : cp_BA M0 w) (hK : cc_K H M0 w) (hr : rv_r4 H 0) (t1 : 1 ≤ H 0) (t3 : H 0 ≤ 3) {M : mj_M} {LA PA BE : Nat → Int} {bp : Int} (hC : cc_C w M0 LA PA BE bp M) {i : Int} (i0 : 0 ≤ i) (i9 : i < ((cs_t H ^ 4 : Nat) : Int)) (h1 : cw_m H LA 4 8 i.toNat → Q (some (.inl 1)) G M) (h0 : ¬ cw_m H LA 4 8 i.toNat → Q (some (.inl 0)) G M) : mj_R mj_tab (d + 1) 9 [.inr (.inr (some (w 125))), .inl i] G M Q := by
  have et := cs_te hr
  refine ⟨Nat.le_of_ble_eq_true rfl, ?_⟩
  show wz d mt_X0_meetsNeeds.2.2.2.2.1 Q mt_X0_meetsNeeds.2.2.2.2.1 [some (.inr (.inr (some (w 125)))), some (.inl i), none] [] G M _ _
  refine w_ic ?_
  refine w_isn ?_
  exact r_mn ga gb hK hr t1 t3 hC i0 i9 h1 h0 (cs_t H) 0 _ _ (by omega) (by decide) (fun j hj => absurd hj (by omega))
theorem cs_idiv {x t z : Int} (h0 : 0 ≤ x) (ht : 0 < t) (hx : mj_in x) (hy : mj_in t) (e : z = (Int32.ofInt x / Int32.ofInt t).toInt) : z = ((x.toNat / t.toNat : Nat) : Int) := by
  have h1 := ab_quo hx hy (by omega : 1 ≤ t)
  rw [e, h1, Int.tdiv_eq_ediv_of_nonneg h0]
  obtain ⟨x, rfl⟩ : ∃ n : Nat, x = (n : Int) := ⟨x.toNat, by omega⟩
  obtain ⟨t, rfl⟩ : ∃ n : Nat, t = (n : Int) := ⟨t.toNat, by omega⟩
  rfl
theorem cs_irem {x t z : Int} (h0 : 0 ≤ x) (ht : 0 < t) (hx : mj_in x) (hy : mj_in t) (e : z = (Int32.ofInt x - Int32.ofInt x / Int32.ofInt t * Int32.ofInt t).toInt) : z = ((x.toNat % t.toNat : Nat) : Int) := by
  have h1 := cs_idiv h0 ht hx hy rfl
  have h2 : Int32.ofInt x / Int32.ofInt t = Int32.ofInt ((x.toNat / t.toNat : Nat) : Int) := by rw [← h1, Int32.ofInt_toInt]
  have h3 := Nat.div_add_mod x.toNat t.toNat
  have h4 : ((x.toNat / t.toNat : Nat) : Int) * t = ((t.toNat * (x.toNat / t.toNat) : Nat) : Int) := by
    rw [Nat.mul_comm, Int.natCast_mul, show ((t.toNat : Nat) : Int) = t by omega]
  have h5 : x - ((x.toNat / t.toNat : Nat) : Int) * t = ((x.toNat % t.toNat : Nat) : Int) := by rw [h4]; omega
  have h6 : x.toNat % t.toNat ≤ x.toNat := Nat.mod_le _ _
  have h7 := hx.2
  rw [e, h2, ← Int32.ofInt_mul, ← Int32.ofInt_sub, h5]
  exact mj_ti ⟨by omega, by omega⟩
theorem r_kt {G : mj_G} {M0 : mj_M} {w : Nat → Nat} {H : Nat → Int} {Q : mj_P} {d : Nat} (ga : cp_GA G w) (gb : cp_BA M0 w) (hK : cc_K H M0 w) (hr : rv_r4 H 0) (t1 : 1 ≤ H 0) (t3 : H 0 ≤ 3) {LA PA : Nat → Int} {bp : Int} {i : Int} (i0 : 0 ≤ i) (i9 : i < ((cs_t H ^ 4 : Nat) : Int)) : ∀ (n : Nat) (mo lf : Int) (BE BE0 : Nat → Int) (M : mj_M) (cb sb : Nat), mo = 7 + n → n ≤ 4 → lf = ((i.toNat / cs_t H ^ (4 - n) : Nat) : Int) → cc_C w M0 LA PA BE bp M → (∀ j : Nat, (j : Int) < 8 → BE j = BE0 j) → (∀ j : Nat, mo < (j : Int) → j < 12 → cs_pc H (BE j) = cw_p H 4 8 i.toNat j ∧ 0 ≤ BE j ∧ BE j < H 0) → (∀ BE2 M2, cc_C w M0 LA PA BE2 bp M2 → (∀ j : Nat, (j : Int) < 8 → BE2 j = BE0 j) → (∀ j : Nat, 8 ≤ j → j < 12 → cs_pc H (BE2 j) = cw_p H 4 8 i.toNat j ∧ 0 ≤ BE2 j ∧ BE2 j < H 0) → Q none G M2) → wz d mt_X0_keepTail.2.2.2.2.1 Q (mt_X0_keepTail.2.2.2.2.1.drop 4) [some (.inr (.inr (some (w 125)))), some (.inl i), some (.inl lf), some (.inl mo)] [] G M cb sb := by
  have et := cs_te hr
  have b1 := cs_r1 hr
  have pw := (cw_pow (H := H) (by omega) (by omega)).2.2.2
  intro n
  induction n with
  | zero =>
    intro mo lf BE BE0 M cb sb e en el hC h1 h2 h
    refine w_iln rfl ?_
    refine w_bp ?_
    refine w_cmlt (fun c1 => ?_) (fun c1 => ?_)
    · skip
      exact w_ret (h BE M hC h1 (fun j h3 h4 => h2 j (by omega) h4))
    · exfalso; omega
  | succ n ih =>
    intro mo lf BE BE0 M cb sb e en el hC h1 h2 h
    have l9 : i.toNat / cs_t H ^ (4 - (n + 1)) ≤ i.toNat := Nat.div_le_self _ _
    have ed := fun z => cw_p_d (H := H) 3 8 i.toNat n z (show i.toNat < cs_t H ^ 4 by omega)
    have e3 : 3 - n = 4 - (n + 1) := by omega
    obtain ⟨lq, hlq⟩ : ∃ q, q = i.toNat / cs_t H ^ (4 - (n + 1)) := ⟨_, rfl⟩
    rw [← hlq] at el l9
    refine w_iln rfl ?_
    refine w_bp ?_
    refine w_cmlt (fun c1 => ?_) (fun c1 => ?_)
    · exfalso; omega
    · skip
      refine w_aln rfl ?_
      refine w_gi ga.g125 rfl (by decide) rfl ((hC.2.2.1 5 (by decide)).trans hK.1) ?_
      refine w_ifle (fun c2 => ?_) (fun c2 => ?_)
      · exfalso; omega
      · skip
        refine w_aln rfl ?_
        refine w_gr ga.g125 rfl (by decide) rfl (hC.r (gb.r125_17)) ?_
        refine w_iln rfl ?_
        refine w_iln rfl ?_
        refine w_aln rfl ?_
        refine w_gi ga.g125 rfl (by decide) rfl ((hC.2.2.1 5 (by decide)).trans hK.1) ?_
        refine w_rem (by omega) ?_
        intro z3 hz3 ez3
        refine w_iast ga.g145 rfl (by decide) (by show (0 : Int) ≤ mo; omega) (by show mo < ((12 : Nat) : Int); omega) ?_
        have qz3 := cs_irem (by omega) (by omega) ⟨by omega, by omega⟩ ⟨by omega, by omega⟩ ez3
        have hC4 := hC.h145 (j := mo.toNat) (v := z3) ga
        refine w_iln rfl ?_
        refine w_aln rfl ?_
        refine w_gi ga.g125 rfl (by decide) rfl ((hC4.2.2.1 5 (by decide)).trans hK.1) ?_
        refine w_div (by omega) ?_
        intro z5 hz5 ez5
        refine w_isn ?_
        show wz _ _ _ _ [some (.inr (.inr (some (w 125)))), some (.inl i), some (.inl z5), some (.inl mo)] _ _ _ _ _
        refine w_ii rfl ⟨by show (-2147483648 : Int) ≤ mo + (-1); omega, by show mo + (-1) < (2147483648 : Int); omega⟩ ?_
        show wz _ _ _ _ [some (.inr (.inr (some (w 125)))), some (.inl i), some (.inl z5), some (.inl (mo + (-1)))] _ _ _ _ _
        refine w_goto ?_
        have qd := cs_idiv (by omega) (by omega) ⟨by omega, by omega⟩ ⟨by omega, by omega⟩ ez5
        have et2 : (H 0).toNat = cs_t H := rfl
        rw [et2, show lf.toNat = lq by omega] at qz3 qd
        have hz : z3.toNat < cs_t H := by rw [qz3]; exact Nat.mod_lt _ (by omega)
        refine ih _ _ _ BE0 _ _ _ (by omega) (by omega) ?_ hC4 (fun j hj => (rv_up_n (by omega)).trans (h1 j hj)) (fun j h3 h4 => ?_) h
        · rw [qd, hlq, Nat.div_div_eq_div_mul, ← Nat.pow_succ, show (4 - (n + 1)).succ = 4 - n by omega]
        by_cases ej : (j : Int) = mo
        · rw [show j = mo.toNat by omega, rv_up_s]
          refine ⟨?_, by omega, by omega⟩
          rw [show mo.toNat = 8 + n by omega, ed (by omega), qz3, cs_pc_n hr, hlq, e3]
        · rw [rv_up_n (by omega)]; exact h2 j (by omega) h4
theorem r_X0_keepTail {G : mj_G} {M0 : mj_M} {w : Nat → Nat} {H : Nat → Int} {Q : mj_P} {d : Nat} (ga : cp_GA G w) (gb : cp_BA M0 w) (hK : cc_K H M0 w) (hr : rv_r4 H 0) (t1 : 1 ≤ H 0) (t3 : H 0 ≤ 3) {M : mj_M} {LA PA BE : Nat → Int} {bp : Int} (hC : cc_C w M0 LA PA BE bp M) {i : Int} (i0 : 0 ≤ i) (i9 : i < ((cs_t H ^ 4 : Nat) : Int)) (h : ∀ BE2 M2, cc_C w M0 LA PA BE2 bp M2 → (∀ j : Nat, (j : Int) < 8 → BE2 j = BE j) → (∀ j : Nat, 8 ≤ j → j < 12 → cs_pc H (BE2 j) = cw_p H 4 8 i.toNat j ∧ 0 ≤ BE2 j ∧ BE2 j < H 0) → Q none G M2) : mj_R mj_tab (d + 1) 5 [.inr (.inr (some (w 125))), .inl i] G M Q := by
  refine ⟨Nat.le_of_ble_eq_true rfl, ?_⟩
  show wz d mt_X0_keepTail.2.2.2.2.1 Q mt_X0_keepTail.2.2.2.2.1 [some (.inr (.inr (some (w 125)))), some (.inl i), none, none] [] G M _ _
  refine w_iln rfl ?_
  refine w_isn ?_
  refine w_bp ?_
  refine w_isn ?_
  exact r_kt ga gb hK hr t1 t3 i0 i9 4 11 i BE BE M _ _ rfl (by decide) (by rw [show 4 - 4 = 0 from rfl, Nat.pow_zero, Nat.div_one]; omega) hC (fun _ _ => rfl) (fun j h3 h4 => by omega) h
