/-! ===== the cheapest letting: the class, month by month (laid by a program) ===== -/
theorem cs_cut_k {b : cs_R} {k lb : Int} {P : Nat → Int} {m : Nat} {a : cs_R} (h0 : ∀ c, cs_le a c → lb ≤ c) (hb : cs_le b (k + lb)) : cs_min b (cs_pre k P m a) = b := by
  obtain ⟨x, e, hx⟩ := hb
  cases a with
  | none => exact cs_min_none b
  | some y =>
    subst e
    show (if k + y.1 < x.1 then _ else some x) = some x
    have : lb ≤ y.1 := h0 y.1 ⟨y, rfl, Int.le_refl _⟩
    exact if_neg (by omega)
theorem cw_c_9 {H : Nat → Int} (h : rv_r4 H 0) (h3 : H 0 ≤ 3) : ∀ (r i : Nat), i < cs_t H ^ (r + 1) → 0 ≤ cw_c H (r + 1) i ∧ cw_c H (r + 1) i ≤ 1296 * r
  | 0, _, _ => ⟨Int.le_refl _, Int.le_refl _⟩
  | r + 1, i, hi => by
    have hp : 0 < cs_t H ^ (r + 1) := Nat.pos_of_ne_zero (fun z => by rw [Nat.pow_succ, z, Nat.zero_mul] at hi; exact absurd hi (Nat.not_lt_zero _))
    have hm := Nat.mod_lt i hp
    have h1 := cw_c_9 h h3 r (i % cs_t H ^ (r + 1)) hm
    have d1 : i / cs_t H ^ (r + 1) < cs_t H := Nat.div_lt_of_lt_mul (by rw [← Nat.pow_succ]; exact hi)
    have d2 : i % cs_t H ^ (r + 1) / cs_t H ^ r < cs_t H := Nat.div_lt_of_lt_mul (by rw [← Nat.pow_succ]; exact hm)
    have h2 := cs_cost_9 h h3 (a := i / cs_t H ^ (r + 1)) (b := i % cs_t H ^ (r + 1) / cs_t H ^ r) (by omega) (by omega)
    show 0 ≤ cw_c H (r + 1) (i % cs_t H ^ (r + 1)) + cs_cost H (i / cs_t H ^ (r + 1)) (i % cs_t H ^ (r + 1) / cs_t H ^ r) ∧ cw_c H (r + 1) (i % cs_t H ^ (r + 1)) + cs_cost H (i / cs_t H ^ (r + 1)) (i % cs_t H ^ (r + 1) / cs_t H ^ r) ≤ _
    omega
/-- a plan in places, as a plan in numbers -/
abbrev cs_pl (H BE : Nat → Int) : Nat → Int := fun j => cs_pc H (BE j)
theorem cs_N.so {far : Int} {P0 : Nat → Int} {b : cs_R} {best k : Int} {PL PL2 : Nat → Int} (h : cs_N far P0 b best PL) (x : Int × (Nat → Int)) (e : x.1 = k) (hk : k < best) (hf : 0 ≤ far) (k0 : 0 ≤ k) (hp : ∀ j, j < 12 → PL2 j = x.2 j) : cs_N far P0 (cs_min b (some x)) k PL2 := by
  rw [h.tk x e hk]
  have := h.b hf
  exact ⟨e, k0, by omega, hp⟩
theorem r_tt {G : mj_G} {M0 : mj_M} {w : Nat → Nat} {H : Nat → Int} {Q : mj_P} {d : Nat} (ga : cp_GA G w) (gb : cp_BA M0 w) (hK : cc_K H M0 w) (hr : rv_r4 H 0) (t1 : 1 ≤ H 0) (t3 : H 0 ≤ 3) {LA PA P : Nat → Int} {P0 : Nat → Int} {b : cs_R} {at_ pd : Int} (a0 : 0 ≤ at_) (a3 : at_ ≤ H 0) (p0 : 0 ≤ pd) (p9 : pd ≤ 20000) (hP : ∀ j, j < 8 → cs_pc H (PA j) = P j) : ∀ (n : Nat) (i : Int) (bi : cs_R) (bp : Int) (BE : Nat → Int) (M : mj_M) (v4 : Option mj_V) (cb sb : Nat), i + n = ((cs_t H ^ 4 : Nat) : Int) → 0 ≤ i → cc_C w M0 LA PA BE bp M → cs_N 1000000 P0 bi bp (cs_pl H BE) → bi = cw_run (H := H) b pd P 3 8 at_.toNat LA i.toNat → (∀ b2 bp2 BE2 M2, cc_C w M0 LA PA BE2 bp2 M2 → cs_N 1000000 P0 b2 bp2 (cs_pl H BE2) → b2 = cw_run (H := H) b pd P 3 8 at_.toNat LA (cs_t H ^ 4) → Q none G M2) → wz (d + 2) mt_X0_tryTails.2.2.2.2.1 Q (mt_X0_tryTails.2.2.2.2.1.drop 2) [some (.inr (.inr (some (w 125)))), some (.inl at_), some (.inl pd), some (.inl i), v4] [] G M cb sb := by
  have et := cs_te hr
  have b1 := cs_r1 hr
  have pw := (cw_pow (H := H) (by omega) (by omega)).2.2.2
  intro n
  induction n with
  | zero =>
    intro i bi bp BE M v4 cb sb e i0 hC hN eb h
    refine w_iln rfl ?_
    refine w_aln rfl ?_
    refine w_gi ga.g125 rfl (by decide) rfl ((hC.2.2.1 15 (by decide)).trans hK.2.2.1) ?_
    refine w_cmge (fun c1 => ?_) (fun c1 => ?_)
    · skip
      exact w_ret (h bi bp BE M hC hN (by rw [eb, show i.toNat = cs_t H ^ 4 by omega]))
    · exfalso; omega
  | succ n ih =>
    intro i bi bp BE M v4 cb sb e i0 hC hN eb h
    have ci : 0 ≤ cw_c H 4 i.toNat ∧ cw_c H 4 i.toNat ≤ 3888 := by
      have q := cw_c_9 hr t3 3 i.toNat (show i.toNat < cs_t H ^ 4 by omega)
      exact ⟨q.1, Int.le_trans q.2 (by decide)⟩
    have bb := hN.b (by decide)
    have hti9 : i.toNat / cs_t H ^ 3 < cs_t H := Nat.div_lt_of_lt_mul (by rw [← Nat.pow_succ]; show i.toNat < cs_t H ^ 4; omega)
    obtain ⟨ti, hti⟩ : ∃ n : Nat, ((i.toNat / cs_t H ^ 3 : Nat) : Int) = (n : Int) := ⟨_, rfl⟩
    have htn : i.toNat / cs_t H ^ 3 = ti := Int.ofNat.inj hti
    have cst := cs_cost_9 hr t3 (a := at_.toNat) (b := ti) (by omega) (by omega)
    have e1 : (i + 1).toNat = i.toNat + 1 := by omega
    have hlo : ∀ c, cs_le (cw_R H 3 8 at_.toNat LA i.toNat) c → cw_c H 4 i.toNat + cs_cost H at_.toNat ti ≤ c := fun c q => by
      obtain ⟨x, q1, q2⟩ := q
      unfold cw_R at q1
      by_cases z : cw_m H LA (3 + 1) 8 i.toNat
      · rw [if_pos z] at q1
        have q3 := congrArg Prod.fst (Option.some.inj q1)
        rw [← htn]
        have q4 : cw_c H 4 i.toNat + cs_cost H at_.toNat (i.toNat / cs_t H ^ 3) = x.1 := q3
        omega
      · rw [if_neg z] at q1; cases q1
    refine w_iln rfl ?_
    refine w_aln rfl ?_
    refine w_gi ga.g125 rfl (by decide) rfl ((hC.2.2.1 15 (by decide)).trans hK.2.2.1) ?_
    refine w_cmge (fun c1 => ?_) (fun c1 => ?_)
    · exfalso; omega
    · skip
      refine w_iln rfl ?_
      refine w_bp ?_
      refine w_cmge (fun c2 => ?_) (fun c2 => ?_)
      · exfalso; omega
      · skip
        refine w_iln rfl ?_
        refine w_aln rfl ?_
        refine w_gr ga.g125 rfl (by decide) rfl (hC.r (gb.r125_13)) ?_
        refine w_iln rfl ?_
        refine w_iald (v := (cw_c H 4 i.toNat)) ga.g142 rfl (by show (0 : Int) ≤ i; omega) (by show i < ((81 : Nat) : Int); omega) ((hC.o ga.n142).trans (hK.tc (by omega))) ?_
        refine w_add ⟨by show (-2147483648 : Int) ≤ pd + (cw_c H 4 i.toNat); omega, by show pd + (cw_c H 4 i.toNat) < (2147483648 : Int); omega⟩ ?_
        refine w_is ?_
        show wz _ _ _ _ [some (.inr (.inr (some (w 125)))), some (.inl at_), some (.inl pd), some (.inl i), some (.inl (pd + (cw_c H 4 i.toNat)))] _ _ _ _ _
        refine w_il rfl ?_
        refine w_aln rfl ?_
        refine w_gi ga.g125 rfl (by decide) rfl (hC.2.2.2.1) ?_
        refine w_cmge (fun c3 => ?_) (fun c3 => ?_)
        · skip
          refine w_ii rfl ⟨by show (-2147483648 : Int) ≤ i + 1; omega, by show i + 1 < (2147483648 : Int); omega⟩ ?_
          show wz _ _ _ _ [some (.inr (.inr (some (w 125)))), some (.inl at_), some (.inl pd), some (.inl (i + 1)), some (.inl (pd + (cw_c H 4 i.toNat)))] _ _ _ _ _
          refine w_goto ?_
          refine ih (i + 1) bi bp BE M _ _ _ (by omega) (by omega) hC hN ?_ h
          rw [e1, cw_run_s, ← eb]
          exact (cs_cut_k (lb := cw_c H 4 i.toNat) (fun c q => by have := hlo c q; omega) (hN.le (by omega) (by omega))).symm
        · skip
          refine w_aln rfl ?_
          refine w_iln rfl ?_
          refine w_cv (st := []) rfl ga.g125 rfl (Nat.le_of_ble_eq_true rfl) (fun kk h => h) (r_X0_meetsNeeds (d := d + 1) ga gb hK hr t1 t3 hC (i := i) (by omega) (by omega) (fun hm => ?_) (fun hm => ?_))
          · skip
            refine w_ifeq (fun c4 => ?_) (fun c4 => ?_)
            · exfalso; omega
            · skip
              refine w_il rfl ?_
              refine w_aln rfl ?_
              refine w_iln rfl ?_
              refine w_aln rfl ?_
              refine w_gr ga.g125 rfl (by decide) rfl (hC.r (gb.r125_14)) ?_
              refine w_iln rfl ?_
              refine w_iald (v := (ti : Int)) ga.g143 rfl (by show (0 : Int) ≤ i; omega) (by show i < ((81 : Nat) : Int); omega) (((hC.o ga.n143).trans (hK.tt (by omega))).trans hti) ?_
              refine w_cv (st := [.inl (pd + (cw_c H 4 i.toNat))]) rfl ga.g125 rfl (Nat.le_of_ble_eq_true rfl) (fun kk h => h) (r_X0_costOf (d := d + 1) ga gb hK hr t1 t3 hC (fr := at_) (to := (ti : Int)) (by omega) (by omega) (by omega) (by omega) ?_)
              show wz _ _ _ _ _ (.inl (cs_cost H at_.toNat ti) :: _) _ _ _ _
              refine w_add ⟨by show (-2147483648 : Int) ≤ (pd + (cw_c H 4 i.toNat)) + (cs_cost H at_.toNat ti); omega, by show (pd + (cw_c H 4 i.toNat)) + (cs_cost H at_.toNat ti) < (2147483648 : Int); omega⟩ ?_
              refine w_is ?_
              show wz _ _ _ _ [some (.inr (.inr (some (w 125)))), some (.inl at_), some (.inl pd), some (.inl i), some (.inl ((pd + (cw_c H 4 i.toNat)) + (cs_cost H at_.toNat ti)))] _ _ _ _ _
              refine w_il rfl ?_
              refine w_aln rfl ?_
              refine w_gi ga.g125 rfl (by decide) rfl (hC.2.2.2.1) ?_
              refine w_cmge (fun c5 => ?_) (fun c5 => ?_)
              · skip
                refine w_ii rfl ⟨by show (-2147483648 : Int) ≤ i + 1; omega, by show i + 1 < (2147483648 : Int); omega⟩ ?_
                show wz _ _ _ _ [some (.inr (.inr (some (w 125)))), some (.inl at_), some (.inl pd), some (.inl (i + 1)), some (.inl ((pd + (cw_c H 4 i.toNat)) + (cs_cost H at_.toNat ti)))] _ _ _ _ _
                refine w_goto ?_
                refine ih (i + 1) bi bp BE M _ _ _ (by omega) (by omega) hC hN ?_ h
                rw [e1, cw_run_s, ← eb]
                exact (cs_cut_k (lb := cw_c H 4 i.toNat + cs_cost H at_.toNat ti) hlo (hN.le (by omega) (by omega))).symm
              · skip
                refine w_aln rfl ?_
                refine w_bp ?_
                refine w_il rfl ?_
                refine w_cv (st := []) rfl ga.g125 rfl (Nat.le_of_ble_eq_true rfl) (fun kk h => h) (r_X0_keepPath (d := d + 1) ga gb hK hr t1 t3 hC (mi := 8) (pd := (pd + (cw_c H 4 i.toNat)) + (cs_cost H at_.toNat ti)) (by decide) (by decide) (fun BE1 M1 hC1 k1 k2 => ?_))
                refine w_aln rfl ?_
                refine w_iln rfl ?_
                refine w_cv (st := []) rfl ga.g125 rfl (Nat.le_of_ble_eq_true rfl) (fun kk h => h) (r_X0_keepTail (d := d + 1) ga gb hK hr t1 t3 hC1 (i := i) (by omega) (by omega) (fun BE2 M2 hC2 k3 k4 => ?_))
                refine w_ii rfl ⟨by show (-2147483648 : Int) ≤ i + 1; omega, by show i + 1 < (2147483648 : Int); omega⟩ ?_
                show wz _ _ _ _ [some (.inr (.inr (some (w 125)))), some (.inl at_), some (.inl pd), some (.inl (i + 1)), some (.inl ((pd + (cw_c H 4 i.toNat)) + (cs_cost H at_.toNat ti)))] _ _ _ _ _
                refine w_goto ?_
                have hR : cw_R H 3 8 at_.toNat LA i.toNat = some (cw_c H 4 i.toNat + cs_cost H at_.toNat ti, cw_p H 4 8 i.toNat) := by
                  unfold cw_R
                  rw [if_pos (show cw_m H LA (3 + 1) 8 i.toNat from hm), htn]
                refine ih (i + 1) (cs_min bi (cs_pre pd P 8 (cw_R H 3 8 at_.toNat LA i.toNat))) _ BE2 M2 _ _ _ (by omega) (by omega) hC2 ?_ (by rw [e1, cw_run_s, ← eb]) h
                rw [hR]
                refine hN.so (pd + (cw_c H 4 i.toNat + cs_cost H at_.toNat ti), fun j => if j < 8 then P j else cw_p H 4 8 i.toNat j) (by show pd + (cw_c H 4 i.toNat + cs_cost H at_.toNat ti) = (pd + (cw_c H 4 i.toNat)) + (cs_cost H at_.toNat ti); omega) (by omega) (by decide) (by omega) (fun j hj => ?_)
                show cs_pc H (BE2 j) = if j < 8 then P j else cw_p H 4 8 i.toNat j
                by_cases ej : j < 8
                · rw [if_pos ej, k3 j (by omega), k1 j (by omega)]; exact hP j ej
                · rw [if_neg ej]; exact (k4 j (by omega) hj).1
          · skip
            refine w_ifeq (fun c6 => ?_) (fun c6 => ?_)
            · skip
              refine w_ii rfl ⟨by show (-2147483648 : Int) ≤ i + 1; omega, by show i + 1 < (2147483648 : Int); omega⟩ ?_
              show wz _ _ _ _ [some (.inr (.inr (some (w 125)))), some (.inl at_), some (.inl pd), some (.inl (i + 1)), some (.inl (pd + (cw_c H 4 i.toNat)))] _ _ _ _ _
              refine w_goto ?_
              refine ih (i + 1) bi bp BE M _ _ _ (by omega) (by omega) hC hN ?_ h
              rw [e1, cw_run_s, ← eb]
              have hR : cw_R H 3 8 at_.toNat LA i.toNat = none := by
                unfold cw_R
                exact if_neg hm
              exact (cs_cut_n hR).symm
            · exfalso; omega
theorem r_X0_tryTails {G : mj_G} {M0 : mj_M} {w : Nat → Nat} {H : Nat → Int} {Q : mj_P} {d : Nat} (ga : cp_GA G w) (gb : cp_BA M0 w) (hK : cc_K H M0 w) (hr : rv_r4 H 0) (t1 : 1 ≤ H 0) (t3 : H 0 ≤ 3) {LA PA P : Nat → Int} {P0 : Nat → Int} {b : cs_R} {at_ pd : Int} (a0 : 0 ≤ at_) (a3 : at_ ≤ H 0) (p0 : 0 ≤ pd) (p9 : pd ≤ 20000) (hP : ∀ j, j < 8 → cs_pc H (PA j) = P j) {BE : Nat → Int} {bp : Int} {M : mj_M} (hC : cc_C w M0 LA PA BE bp M) (hN : cs_N 1000000 P0 b bp (cs_pl H BE)) (h : ∀ b2 bp2 BE2 M2, cc_C w M0 LA PA BE2 bp2 M2 → cs_N 1000000 P0 b2 bp2 (cs_pl H BE2) → b2 = cs_min b (cs_pre pd P 8 (cs_T H 4 8 at_.toNat LA)) → Q none G M2) : mj_R mj_tab (d + 3) 16 [.inr (.inr (some (w 125))), .inl at_, .inl pd] G M Q := by
  refine ⟨Nat.le_of_ble_eq_true rfl, ?_⟩
  show wz (d + 2) mt_X0_tryTails.2.2.2.2.1 Q mt_X0_tryTails.2.2.2.2.1 [some (.inr (.inr (some (w 125)))), some (.inl at_), some (.inl pd), none, none] [] G M _ _
  refine w_ic ?_
  refine w_isn ?_
  refine r_tt ga gb hK hr t1 t3 a0 a3 p0 p9 hP (b := b) (P0 := P0) (cs_t H ^ 4) 0 b bp BE M none _ _ (by omega) (by decide) hC hN ?_ (fun b2 bp2 BE2 M2 g1 g2 g3 => h b2 bp2 BE2 M2 g1 g2 (g3.trans cw_run_e))
  exact cw_run_0.symm
theorem r_X0_tryMonth {G : mj_G} {M0 : mj_M} {w : Nat → Nat} {H : Nat → Int} {d : Nat} (ga : cp_GA G w) (gb : cp_BA M0 w) (hK : cc_K H M0 w) (hr : rv_r4 H 0) (t1 : 1 ≤ H 0) (t3 : H 0 ≤ 3) {P0 : Nat → Int} : ∀ (r : Nat) (mi at_ pd : Int) (P LA PA BE : Nat → Int) (b : cs_R) (bp : Int) (M : mj_M) (Q : mj_P), mi + r = 8 → 0 ≤ mi → 0 ≤ at_ → at_ ≤ H 0 → 0 ≤ pd → pd ≤ 1296 * mi → (∀ j : Nat, (j : Int) < mi → cs_pc H (PA j) = P j) → (∀ k : Nat, (k : Int) < H 0 → -(999 * mi) - 2000 ≤ LA k ∧ LA k ≤ 2000) → cc_C w M0 LA PA BE bp M → cs_N 1000000 P0 b bp (cs_pl H BE) → (∀ b2 bp2 PA2 BE2 M2, cc_C w M0 LA PA2 BE2 bp2 M2 → (∀ j : Nat, (j : Int) < mi → PA2 j = PA j) → cs_N 1000000 P0 b2 bp2 (cs_pl H BE2) → b2 = cs_min b (cs_pre pd P mi.toNat (cs_S H (r + 4) mi.toNat at_.toNat LA)) → Q none G M2) → mj_R mj_tab (d + r + 4) 15 [.inr (.inr (some (w 125))), .inl mi, .inl at_, .inl pd] G M Q := by
  have et := cs_te hr
  have b1 := cs_r1 hr
  have ho := cs_oke hr
  intro r
  induction r with
  | zero =>
    intro mi at_ pd P LA PA BE b bp M Q e m0 a0 a3 p0 p9 hP hl hC hN h
    obtain rfl : mi = 8 := by omega
    have bb := hN.b (by decide)
    have lb := cs_LB_9 hr t3 (b := cs_b LA) (a := at_.toNat) (by omega)
    have lbe := cs_LB_le ho (show cs_t H ≤ 3 by omega) (0 + 4) 8 at_.toNat LA
    refine ⟨Nat.le_of_ble_eq_true rfl, ?_⟩
    show wz (d + 3) mt_X0_tryMonth.2.2.2.2.1 Q mt_X0_tryMonth.2.2.2.2.1 [some (.inr (.inr (some (w 125)))), some (.inl 8), some (.inl at_), some (.inl pd), none] [] G M _ _
    refine w_iln rfl ?_
    refine w_aln rfl ?_
    refine w_iln rfl ?_
    refine w_cv (st := [.inl pd]) rfl ga.g125 rfl (Nat.le_of_ble_eq_true rfl) (fun kk h => h) (r_X0_leastToCome (d := d + 2) ga gb hK hr t1 t3 hC (at_ := at_) (by omega) (by omega) ?_)
    refine w_add ⟨by show (-2147483648 : Int) ≤ pd + (cs_LB H (cs_b LA) at_.toNat); omega, by show pd + (cs_LB H (cs_b LA) at_.toNat) < (2147483648 : Int); omega⟩ ?_
    refine w_aln rfl ?_
    refine w_gi ga.g125 rfl (by decide) rfl (hC.2.2.2.1) ?_
    refine w_cmlt (fun c1 => ?_) (fun c1 => ?_)
    · skip
      refine w_aln rfl ?_
      refine w_cv (st := []) rfl ga.g125 rfl (Nat.le_of_ble_eq_true rfl) (fun kk h => h) (r_X0_lacksAny (d := d + 2) ga gb hK hr t1 t3 hC (fun hlk => ?_) (fun hmet => ?_))
      · skip
        refine w_ifne (fun c2 => ?_) (fun c2 => ?_)
        · skip
          refine w_aln rfl ?_
          refine w_iln rfl ?_
          have hnm : ¬ cs_met H LA := fun q => by obtain ⟨k, k1, k2⟩ := hlk; have := q k k1; omega
          refine w_cv (st := []) rfl ga.g125 rfl (Nat.le_of_ble_eq_true rfl) (fun kk h => h) (r_X0_canBe (d := d + 2) ga gb hK hr t1 t3 hC (mi := 8) (by omega) (by omega) (fun k hk => by have := hl k hk; omega) ?_ (fun hno => ?_))
          · skip
            refine w_ifne (fun c3 => ?_) (fun c3 => ?_)
            · skip
              refine w_iln rfl ?_
              refine w_bp ?_
              refine w_cmlt (fun c4 => ?_) (fun c4 => ?_)
              · exfalso; omega
              · skip
                refine w_aln rfl ?_
                refine w_iln rfl ?_
                refine w_iln rfl ?_
                refine w_cv (st := []) rfl ga.g125 rfl (Nat.le_of_ble_eq_true rfl) (fun kk h => h) (r_X0_tryTails (d := d) ga gb hK hr t1 t3 (b := b) (P := P) (P0 := P0) (at_ := at_) (pd := pd) (by omega) (by omega) (by omega) (by omega) (fun j hj => hP j (by omega)) hC hN (fun b2 bp2 BE2 M2 hCt gt2 gt3 => ?_))
                have eST : cs_S H (0 + 4) 8 at_.toNat LA = cs_T H 4 8 at_.toNat LA := by
                  by_cases z : at_.toNat < cs_t H
                  · exact cs_S_T ho 4 8 _ LA z
                  · rw [show at_.toNat = cs_t H by omega]; exact cs_S_start ho hnm
                exact w_ret (h b2 bp2 PA BE2 M2 hCt (fun _ _ => rfl) gt2 (gt3.trans (by rw [← eST]; rfl)))
            · exfalso; omega
          · skip
            refine w_ifne (fun c5 => ?_) (fun c5 => ?_)
            · exfalso; omega
            · skip
              have hS : cs_S H (0 + 4) (8 : Int).toNat at_.toNat LA = none := by
                rcases hno with ⟨k, k1, k2⟩ | k1
                · exact cs_can_n k1 (by rw [show 12 - (8 : Int).toNat = 0 + 4 by omega] at k2; exact k2)
                · exact cs_can2_n (by rw [show 12 - (8 : Int).toNat = 0 + 4 by omega] at k1; exact k1)
              exact w_ret (h b bp PA BE M hC (fun _ _ => rfl) hN (cs_cut_n hS).symm)
        · exfalso; omega
      · skip
        refine w_ifne (fun c6 => ?_) (fun c6 => ?_)
        · exfalso; omega
        · skip
          refine w_aln rfl ?_
          refine w_iln rfl ?_
          refine w_iln rfl ?_
          refine w_cv (st := []) rfl ga.g125 rfl (Nat.le_of_ble_eq_true rfl) (fun kk h => h) (r_X0_keepPath (d := d + 2) ga gb hK hr t1 t3 hC (mi := 8) (pd := pd) (by omega) (by omega) (fun BE1 M1 hC1 k1 k2 => ?_))
          refine w_aln rfl ?_
          refine w_iln rfl ?_
          refine w_iln rfl ?_
          refine w_cv (st := []) rfl ga.g125 rfl (Nat.le_of_ble_eq_true rfl) (fun kk h => h) (r_X0_stayFrom (d := d) ga gb hK hr t1 t3 hC1 (mi := 8) (at_ := at_) (by omega) (by omega) (by omega) (by omega) hmet (fun BE2 M2 W k3 k4 k5 k6 => ?_))
          have k5' : cs_S H (0 + 4) (8 : Int).toNat at_.toNat LA = some (0, W) := by rw [← k5]; congr 1 <;> omega
          refine w_ret (h _ pd PA BE2 M2 k3 (fun _ _ => rfl) ?_ rfl)
          rw [k5']
          refine hN.so (pd + 0, fun j => if j < (8 : Int).toNat then P j else W j) (by show pd + 0 = pd; omega) (by omega) (by decide) (by omega) (fun j hj => ?_)
          show cs_pc H (BE2 j) = if j < (8 : Int).toNat then P j else W j
          by_cases ej : j < (8 : Int).toNat
          · rw [if_pos ej, k4 j (by omega), k1 j (by omega)]; exact hP j (by omega)
          · rw [if_neg ej]; exact k6 j (by omega) hj
    · skip
      exact w_ret (h b bp PA BE M hC (fun _ _ => rfl) hN (cs_cut_k (lb := (cs_LB H (cs_b LA) at_.toNat)) (fun c q => lbe c q) (hN.le (by omega) (by omega))).symm)
  | succ r ih =>
    intro mi at_ pd P LA PA BE b bp M Q e m0 a0 a3 p0 p9 hP hl hC hN h
    have bb := hN.b (by decide)
    have lb := cs_LB_9 hr t3 (b := cs_b LA) (a := at_.toNat) (by omega)
    have lbe := cs_LB_le ho (show cs_t H ≤ 3 by omega) (r + 1 + 4) mi.toNat at_.toNat LA
    rw [show d + (r + 1) + 4 = d + r + 4 + 1 by omega]
    refine ⟨Nat.le_of_ble_eq_true rfl, ?_⟩
    show wz (d + r + 4) mt_X0_tryMonth.2.2.2.2.1 Q mt_X0_tryMonth.2.2.2.2.1 [some (.inr (.inr (some (w 125)))), some (.inl mi), some (.inl at_), some (.inl pd), none] [] G M _ _
    refine w_iln rfl ?_
    refine w_aln rfl ?_
    refine w_iln rfl ?_
    refine w_cv (st := [.inl pd]) rfl ga.g125 rfl (Nat.le_of_ble_eq_true rfl) (fun kk h => h) (r_X0_leastToCome (d := d + r + 3) ga gb hK hr t1 t3 hC (at_ := at_) (by omega) (by omega) ?_)
    refine w_add ⟨by show (-2147483648 : Int) ≤ pd + (cs_LB H (cs_b LA) at_.toNat); omega, by show pd + (cs_LB H (cs_b LA) at_.toNat) < (2147483648 : Int); omega⟩ ?_
    refine w_aln rfl ?_
    refine w_gi ga.g125 rfl (by decide) rfl (hC.2.2.2.1) ?_
    refine w_cmlt (fun c1 => ?_) (fun c1 => ?_)
    · skip
      refine w_aln rfl ?_
      refine w_cv (st := []) rfl ga.g125 rfl (Nat.le_of_ble_eq_true rfl) (fun kk h => h) (r_X0_lacksAny (d := d + r + 3) ga gb hK hr t1 t3 hC (fun hlk => ?_) (fun hmet => ?_))
      · skip
        refine w_ifne (fun c2 => ?_) (fun c2 => ?_)
        · skip
          refine w_aln rfl ?_
          refine w_iln rfl ?_
          have hnm : ¬ cs_met H LA := fun q => by obtain ⟨k, k1, k2⟩ := hlk; have := q k k1; omega
          refine w_cv (st := []) rfl ga.g125 rfl (Nat.le_of_ble_eq_true rfl) (fun kk h => h) (r_X0_canBe (d := d + r + 3) ga gb hK hr t1 t3 hC (mi := mi) (by omega) (by omega) (fun k hk => by have := hl k hk; omega) ?_ (fun hno => ?_))
          · skip
            refine w_ifne (fun c3 => ?_) (fun c3 => ?_)
            · skip
              refine w_iln rfl ?_
              refine w_bp ?_
              refine w_cmlt (fun c4 => ?_) (fun c4 => ?_)
              · skip
                refine w_ic ?_
                refine w_is ?_
                show wz _ _ _ _ [some (.inr (.inr (some (w 125)))), some (.inl mi), some (.inl at_), some (.inl pd), some (.inl 0)] _ _ _ _ _
                have key : ∀ (n : Nat) (k : Int) (bk : cs_R) (bpk : Int) (PA2 BE2 : Nat → Int) (M2 : mj_M) (cb sb : Nat), k + n = H 0 → 0 ≤ k → cc_C w M0 LA PA2 BE2 bpk M2 → (∀ j : Nat, (j : Int) < mi → PA2 j = PA j) → cs_N 1000000 P0 bk bpk (cs_pl H BE2) → bk = cs_nodeT H b pd P (r + 4) mi.toNat at_.toNat LA k.toNat → wz (d + r + 4) mt_X0_tryMonth.2.2.2.2.1 Q (mt_X0_tryMonth.2.2.2.2.1.drop 36) [some (.inr (.inr (some (w 125)))), some (.inl mi), some (.inl at_), some (.inl pd), some (.inl k)] [] G M2 cb sb := by
                  intro n
                  induction n with
                  | zero =>
                    intro k bk bpk PA2 BE2 M2 cb sb en k0 hC2 hp2 hN2 ebk
                    refine w_il rfl ?_
                    refine w_aln rfl ?_
                    refine w_gi ga.g125 rfl (by decide) rfl ((hC2.2.2.1 5 (by decide)).trans hK.1) ?_
                    refine w_cmge (fun c1 => ?_) (fun c1 => ?_)
                    · skip
                      refine w_ret (h bk bpk PA2 BE2 M2 hC2 hp2 hN2 ?_)
                      rw [ebk, show k.toNat = cs_t H by omega, cs_nodeT_e]
                      have eST : cs_S H (r + 1 + 4) mi.toNat at_.toNat LA = cs_T H (r + 4 + 1) mi.toNat at_.toNat LA := by
                        rw [show r + 1 + 4 = r + 4 + 1 by omega]
                        by_cases z : at_.toNat < cs_t H
                        · exact cs_S_T ho _ _ _ LA z
                        · rw [show at_.toNat = cs_t H by omega]; exact cs_S_start ho hnm
                      rw [eST]
                    · exfalso; omega
                  | succ n ihn =>
                    intro k bk bpk PA2 BE2 M2 cb sb en k0 hC2 hp2 hN2 ebk
                    have bb2 := hN2.b (by decide)
                    have gk := cs_gain_9 hr (k := k.toNat) (m := mi.toNat) (by omega) (by omega)
                    have cst := cs_cost_9 hr t3 (a := at_.toNat) (b := k.toNat) (by omega) (by omega)
                    have hlk2 := hl k.toNat (by omega)
                    have em : (mi + 1).toNat = mi.toNat + 1 := by omega
                    have ek1 : (k + 1).toNat = k.toNat + 1 := by omega
                    refine w_il rfl ?_
                    refine w_aln rfl ?_
                    refine w_gi ga.g125 rfl (by decide) rfl ((hC2.2.2.1 5 (by decide)).trans hK.1) ?_
                    refine w_cmge (fun c1 => ?_) (fun c1 => ?_)
                    · exfalso; omega
                    · skip
                      refine w_aln rfl ?_
                      refine w_gr ga.g125 rfl (by decide) rfl (hC2.r (gb.r125_16)) ?_
                      refine w_iln rfl ?_
                      refine w_il rfl ?_
                      refine w_iast ga.g144 rfl (by decide) (by show (0 : Int) ≤ mi; omega) (by show mi < ((12 : Nat) : Int); omega) ?_
                      have hC2 := hC2.h144 (j := mi.toNat) (v := k) ga
                      refine w_aln rfl ?_
                      refine w_gr ga.g125 rfl (by decide) rfl (hC2.r (gb.r125_8)) ?_
                      refine w_il rfl ?_
                      refine w_dup2 ?_
                      refine w_iald (v := (LA k.toNat)) ga.g128 rfl (by show (0 : Int) ≤ k; omega) (by show k < ((3 : Nat) : Int); omega) (hC2.2.2.2.2.1 _ (by show k.toNat < 3; omega)) ?_
                      refine w_aln rfl ?_
                      refine w_gr ga.g125 rfl (by decide) rfl (hC2.r (gb.r125_9)) ?_
                      refine w_il rfl ?_
                      refine w_aald ga.g129 rfl (by show (0 : Int) ≤ k; omega) (by show k < ((3 : Nat) : Int); omega) (hC2.r (gb.w130 (by show k.toNat < 3; omega))) ?_
                      refine w_iln rfl ?_
                      refine w_iald (v := (cs_gain H k.toNat mi.toNat)) (ga.w130 (by show k.toNat < 3; omega)) rfl (by show (0 : Int) ≤ mi; omega) (by show mi < ((12 : Nat) : Int); omega) ((hC2.o (ga.n130 (by omega))).trans (hK.gn (by omega) (by omega))) ?_
                      refine w_sub ⟨by show (-2147483648 : Int) ≤ (LA k.toNat) - (cs_gain H k.toNat mi.toNat); omega, by show (LA k.toNat) - (cs_gain H k.toNat mi.toNat) < (2147483648 : Int); omega⟩ ?_
                      refine w_iast ga.g128 rfl (by decide) (by show (0 : Int) ≤ k; omega) (by show k < ((3 : Nat) : Int); omega) ?_
                      have hC3 := hC2.h128 (j := k.toNat) (v := (LA k.toNat) - (cs_gain H k.toNat mi.toNat)) ga
                      refine w_aln rfl ?_
                      refine w_iln rfl ?_
                      refine w_ic ?_
                      refine w_add ⟨by show (-2147483648 : Int) ≤ mi + 1; omega, by show mi + 1 < (2147483648 : Int); omega⟩ ?_
                      refine w_il rfl ?_
                      refine w_iln rfl ?_
                      refine w_aln rfl ?_
                      refine w_iln rfl ?_
                      refine w_il rfl ?_
                      refine w_cv (st := [.inl pd, .inl k, .inl (mi + 1), .inr (.inr (some (w 125)))]) rfl ga.g125 rfl (Nat.le_of_ble_eq_true rfl) (fun kk h => h) (r_X0_costOf (d := d + r + 3) ga gb hK hr t1 t3 hC3 (fr := at_) (to := k) (by omega) (by omega) (by omega) (by omega) ?_)
                      refine w_add ⟨by show (-2147483648 : Int) ≤ pd + (cs_cost H at_.toNat k.toNat); omega, by show pd + (cs_cost H at_.toNat k.toNat) < (2147483648 : Int); omega⟩ ?_
                      have hC3 := hC3.la (LA2 := cs_lk H LA k.toNat mi.toNat) (fun j hj => by
                        unfold cs_lk rv_up
                        by_cases ej : j = k.toNat
                        · rw [if_pos ej, if_pos ej, ej]
                        · rw [if_neg ej, if_neg ej])
                      refine w_cv (st := []) rfl ga.g125 rfl (Nat.le_of_ble_eq_true rfl) (fun kk h => h) (ih (mi + 1) k (pd + (cs_cost H at_.toNat k.toNat)) (fun j => if j = mi.toNat then cs_code H k.toNat else P j) (cs_lk H LA k.toNat mi.toNat) _ BE2 bk bpk _ _ (by omega) (by omega) (by omega) (by omega) (by omega) (by omega) (fun j hj => ?_) (fun j hj => ?_) hC3 hN2 (fun b3 bp3 PA3 BE3 M3 hC4 hp3 hN3 e3 => ?_))
                      · by_cases ej : (j : Int) = mi
                        · rw [show j = mi.toNat by omega, rv_up_s, if_pos rfl]; exact cs_pc_i hr k0
                        · rw [rv_up_n (by omega), if_neg (by omega), hp2 j (by omega)]; exact hP j (by omega)
                      · unfold cs_lk; have := hl j hj
                        split
                        · rename_i ej; subst ej; omega
                        · omega
                      have elk : cs_lk H LA k.toNat mi.toNat k.toNat = LA k.toNat - cs_gain H k.toNat mi.toNat := if_pos rfl
                      refine w_aln rfl ?_
                      refine w_gr ga.g125 rfl (by decide) rfl (hC4.r (gb.r125_8)) ?_
                      refine w_il rfl ?_
                      refine w_dup2 ?_
                      refine w_iald (v := ((cs_lk H LA k.toNat mi.toNat) k.toNat)) ga.g128 rfl (by show (0 : Int) ≤ k; omega) (by show k < ((3 : Nat) : Int); omega) (hC4.2.2.2.2.1 _ (by show k.toNat < 3; omega)) ?_
                      refine w_aln rfl ?_
                      refine w_gr ga.g125 rfl (by decide) rfl (hC4.r (gb.r125_9)) ?_
                      refine w_il rfl ?_
                      refine w_aald ga.g129 rfl (by show (0 : Int) ≤ k; omega) (by show k < ((3 : Nat) : Int); omega) (hC4.r (gb.w130 (by show k.toNat < 3; omega))) ?_
                      refine w_iln rfl ?_
                      refine w_iald (v := (cs_gain H k.toNat mi.toNat)) (ga.w130 (by show k.toNat < 3; omega)) rfl (by show (0 : Int) ≤ mi; omega) (by show mi < ((12 : Nat) : Int); omega) ((hC4.o (ga.n130 (by omega))).trans (hK.gn (by omega) (by omega))) ?_
                      refine w_add ⟨by show (-2147483648 : Int) ≤ ((cs_lk H LA k.toNat mi.toNat) k.toNat) + (cs_gain H k.toNat mi.toNat); omega, by show ((cs_lk H LA k.toNat mi.toNat) k.toNat) + (cs_gain H k.toNat mi.toNat) < (2147483648 : Int); omega⟩ ?_
                      refine w_iast ga.g128 rfl (by decide) (by show (0 : Int) ≤ k; omega) (by show k < ((3 : Nat) : Int); omega) ?_
                      have hC4 := hC4.h128 (j := k.toNat) (v := ((cs_lk H LA k.toNat mi.toNat) k.toNat) + (cs_gain H k.toNat mi.toNat)) ga
                      refine w_ii rfl ⟨by show (-2147483648 : Int) ≤ k + 1; omega, by show k + 1 < (2147483648 : Int); omega⟩ ?_
                      show wz _ _ _ _ [some (.inr (.inr (some (w 125)))), some (.inl mi), some (.inl at_), some (.inl pd), some (.inl (k + 1))] _ _ _ _ _
                      refine w_goto ?_
                      have hC6 := hC4.la (LA2 := LA) (fun j hj => by
                        unfold rv_up
                        by_cases ej : j = k.toNat
                        · rw [if_pos ej, ej, elk]; omega
                        · rw [if_neg ej]; exact if_neg ej)
                      refine ihn (k + 1) b3 bp3 PA3 BE3 _ _ _ (by omega) (by omega) hC6 (fun j hj => ?_) hN3 ?_
                      · exact (hp3 j (by omega)).trans ((rv_up_n (by omega)).trans (hp2 j hj))
                      · rw [e3, ek1, cs_nodeT_s, ← ebk, em, cs_S_T ho _ _ _ _ (show k.toNat < cs_t H by omega)]
                exact key (cs_t H) 0 b bp PA BE M _ _ (by omega) (by decide) hC (fun _ _ => rfl) hN (by rw [show (0 : Int).toNat = 0 from rfl, cs_nodeT_0])
              · exfalso; omega
            · exfalso; omega
          · skip
            refine w_ifne (fun c5 => ?_) (fun c5 => ?_)
            · exfalso; omega
            · skip
              have hS : cs_S H (r + 1 + 4) mi.toNat at_.toNat LA = none := by
                rcases hno with ⟨k, k1, k2⟩ | k1
                · exact cs_can_n k1 (by rw [show 12 - mi.toNat = r + 1 + 4 by omega] at k2; exact k2)
                · exact cs_can2_n (by rw [show 12 - mi.toNat = r + 1 + 4 by omega] at k1; exact k1)
              exact w_ret (h b bp PA BE M hC (fun _ _ => rfl) hN (cs_cut_n hS).symm)
        · exfalso; omega
      · skip
        refine w_ifne (fun c6 => ?_) (fun c6 => ?_)
        · exfalso; omega
        · skip
          refine w_aln rfl ?_
          refine w_iln rfl ?_
          refine w_iln rfl ?_
          refine w_cv (st := []) rfl ga.g125 rfl (Nat.le_of_ble_eq_true rfl) (fun kk h => h) (r_X0_keepPath (d := d + r + 3) ga gb hK hr t1 t3 hC (mi := mi) (pd := pd) (by omega) (by omega) (fun BE1 M1 hC1 k1 k2 => ?_))
          refine w_aln rfl ?_
          refine w_iln rfl ?_
          refine w_iln rfl ?_
          refine w_cv (st := []) rfl ga.g125 rfl (Nat.le_of_ble_eq_true rfl) (fun kk h => h) (r_X0_stayFrom (d := d + r + 1) ga gb hK hr t1 t3 hC1 (mi := mi) (at_ := at_) (by omega) (by omega) (by omega) (by omega) hmet (fun BE2 M2 W k3 k4 k5 k6 => ?_))
          have k5' : cs_S H (r + 1 + 4) mi.toNat at_.toNat LA = some (0, W) := by rw [← k5]; congr 1 <;> omega
          refine w_ret (h _ pd PA BE2 M2 k3 (fun _ _ => rfl) ?_ rfl)
          rw [k5']
          refine hN.so (pd + 0, fun j => if j < mi.toNat then P j else W j) (by show pd + 0 = pd; omega) (by omega) (by decide) (by omega) (fun j hj => ?_)
          show cs_pc H (BE2 j) = if j < mi.toNat then P j else W j
          by_cases ej : j < mi.toNat
          · rw [if_pos ej, k4 j (by omega), k1 j (by omega)]; exact hP j (by omega)
          · rw [if_neg ej]; exact k6 j (by omega) hj
    · skip
      exact w_ret (h b bp PA BE M hC (fun _ _ => rfl) hN (cs_cut_k (lb := (cs_LB H (cs_b LA) at_.toNat)) (fun c q => lbe c q) (hN.le (by omega) (by omega))).symm)
