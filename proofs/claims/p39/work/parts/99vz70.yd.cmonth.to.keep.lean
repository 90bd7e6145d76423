section
/-! ===== a MONTH of the class as a whole (laid by a program) ===== -/
section YD
variable {H g : Nat → Int} {F : Nat → Nat → Int} {k : Nat} {f : Nat → Int} {c : Int}
theorem ye_R3_0 : ye_R3 H F 0 = F := funext fun t => by unfold ye_R3; rw [if_neg (by omega)]
theorem ye_R3_k : ye_R3 H F k k = F k := by unfold ye_R3; rw [if_neg (by omega)]
theorem ye_R3_s : ye_R3 H F (k + 1) = ye_ru (ye_R3 H F k) k (ye_dk H k (F k)) := funext fun t => by
  by_cases e : t = k
  · subst e; rw [ye_ru_s]; unfold ye_R3; rw [if_pos (by omega)]
  · rw [ye_ru_n e]; unfold ye_R3
    by_cases c : t < k
    · rw [if_pos c, if_pos (by omega)]
    · rw [if_neg c, if_neg (by omega)]
theorem ye_R4_0 : ye_R4 H F 0 = F := funext fun t => by unfold ye_R4; rw [if_neg (by omega)]
theorem ye_R4_k : ye_R4 H F k k = F k := by unfold ye_R4; rw [if_neg (by omega)]
theorem ye_R4_s : ye_R4 H F (k + 1) = ye_ru (ye_R4 H F k) k (ye_hv H k (F k)) := funext fun t => by
  by_cases e : t = k
  · subst e; rw [ye_ru_s]; unfold ye_R4; rw [if_pos (by omega)]
  · rw [ye_ru_n e]; unfold ye_R4
    by_cases c : t < k
    · rw [if_pos c, if_pos (by omega)]
    · rw [if_neg c, if_neg (by omega)]
theorem ye_sm_b (hf : ∀ j, j < 8 → 0 ≤ f j ∧ f j ≤ c) : ∀ k, k ≤ 8 → 0 ≤ ye_sm f k ∧ ye_sm f k ≤ c * (k : Int)
  | 0, _ => ⟨Int.le_refl 0, by show (0 : Int) ≤ c * ((0 : Nat) : Int); rw [show ((0 : Nat) : Int) = 0 from rfl, Int.mul_zero]; exact Int.le_refl 0⟩
  | k + 1, hk => by
    have ih := ye_sm_b hf k (by omega)
    have q := hf k (by omega)
    show 0 ≤ ye_sm f k + f k ∧ ye_sm f k + f k ≤ c * ((k + 1 : Nat) : Int)
    rw [show ((k + 1 : Nat) : Int) = (k : Int) + 1 from rfl, Int.mul_add, Int.mul_one]
    omega
end YD
theorem ye_mul9 {a b : Int} (h1 : 0 ≤ a) (h2 : a ≤ 999) (h3 : 0 ≤ b) (h4 : b ≤ 12) : 0 ≤ a * b ∧ a * b ≤ 11988 := ⟨Int.mul_nonneg h1 h3, by have := Int.mul_le_mul h2 h4 h3 (by decide : (0 : Int) ≤ 999); omega⟩
theorem r_hvC {G : mj_G} {M0 : mj_M} {u : Nat → Nat} {y la lb lc oa pl ta ba wa dl fa sa ca : Nat} {yr tr br : Nat → Nat} {H : Nat → Int} {g A B C : Nat → Int} {R : Nat → Nat → Int} {Q : mj_P} {d : Nat} (hL : yc_L G M0 u y la lb lc oa yr pl ta ba wa tr br dl fa sa ca H) (hH : 0 ≤ H 0 ∧ H 0 ≤ 8) (hT : ∀ j, 4 ≤ j → j < 76 → 0 ≤ H j ∧ H j ≤ 999) (h8 : ∀ t, t < 8 → 0 ≤ R t 8 ∧ R t 8 ≤ 12) (h9 : ∀ t, t < 8 → R t 9 = 0) (h1 : ∀ t, t < 8 → 0 ≤ R t 1 ∧ R t 1 ≤ 1000000) : ∀ (n : Nat) (i : Int) (M : mj_M) (cb sb : Nat), i + n = H 0 → 0 ≤ i → yc_S y la lb lc yr M0 g A B C (ye_R4 H R i.toNat) M → (∀ M, yc_S y la lb lc yr M0 g A B C (ye_R4 H R (H 0).toNat) M → Q none G M) → wz (d + 1) mt_X10_harvest.2.2.2.2.1 Q (mt_X10_harvest.2.2.2.2.1.drop 2) [some (.inr (.inr (some y))), some (.inr (.inr (some pl))), some (.inl i)] [] G M cb sb := by
  intro n
  induction n with
  | zero =>
    intro i M cb sb e i0 hC h
    obtain rfl : i = H 0 := by omega
    refine w_iln rfl ?_
    refine w_aln rfl ?_
    refine w_gi hL.gpl rfl (by decide) rfl ((congrFun (hC.oo hL hL.gpl (by decide)) 4).trans hL.n4) ?_
    refine w_cmge (fun c1 => ?_) (fun c1 => ?_)
    · skip
      exact w_ret (h _ hC)
    · exfalso; omega
  | succ n ih =>
    intro i M cb sb e i0 hC h
    have t8 := hT (12 + 9 * i.toNat) (by omega) (by omega)
    have er : ye_R4 H R i.toNat i.toNat = R i.toNat := ye_R4_k
    have et : (i + 1).toNat = i.toNat + 1 := by omega
    have q8 : 0 ≤ ye_R4 H R i.toNat i.toNat 8 ∧ ye_R4 H R i.toNat i.toNat 8 ≤ 12 := by rw [er]; exact h8 _ (by omega)
    have q1 : 0 ≤ ye_R4 H R i.toNat i.toNat 1 ∧ ye_R4 H R i.toNat i.toNat 1 ≤ 1000000 := by rw [er]; exact h1 _ (by omega)
    have q9 := h9 i.toNat (by omega)
    revert hC q8 q1
    generalize eF : ye_R4 H R i.toNat = F at er
    intro hC q8 q1
    refine w_iln rfl ?_
    refine w_aln rfl ?_
    refine w_gi hL.gpl rfl (by decide) rfl ((congrFun (hC.oo hL hL.gpl (by decide)) 4).trans hL.n4) ?_
    refine w_cmge (fun c1 => ?_) (fun c1 => ?_)
    · exfalso; omega
    · skip
      refine w_aln rfl ?_
      refine w_gr hL.gy hL.hu.2.1 (by decide) rfl (hC.rf hL.y6) ?_
      refine w_iln rfl ?_
      refine w_aald hL.goa hL.hu.2.2.2.2.2.2.1 (by show (0 : Int) ≤ i; omega) (by show i < ((8 : Nat) : Int); omega) (hC.rf (hL.ot _ (by show i.toNat < 8; omega))) ?_
      refine w_bp ?_
      refine w_aln rfl ?_
      refine w_gr hL.gpl rfl (by decide) rfl (hC.rf hL.p1) ?_
      refine w_iln rfl ?_
      refine w_aald hL.gta rfl (by show (0 : Int) ≤ i; omega) (by show i < ((8 : Nat) : Int); omega) (hC.rf (hL.tt _ (by show i.toNat < 8; omega))) ?_
      refine w_bp ?_
      refine w_iald (v := (H (12 + 9 * i.toNat))) (hL.gtr _ (by show i.toNat < 8; omega)) rfl (by show (0 : Int) ≤ 8; omega) (by show 8 < ((9 : Nat) : Int); omega) (((congrFun (hC.oo hL (hL.gtr _ (by show i.toNat < 8; omega)) (by decide)) _).trans (hL.nt _ 8 (by show i.toNat < 8; omega) (by decide))).trans (congrArg H (show 4 + 9 * i.toNat + 8 = 12 + 9 * i.toNat by omega))) ?_
      refine w_aln rfl ?_
      refine w_gr hL.gy hL.hu.2.1 (by decide) rfl (hC.rf hL.y6) ?_
      refine w_iln rfl ?_
      refine w_aald hL.goa hL.hu.2.2.2.2.2.2.1 (by show (0 : Int) ≤ i; omega) (by show i < ((8 : Nat) : Int); omega) (hC.rf (hL.ot _ (by show i.toNat < 8; omega))) ?_
      refine w_bp ?_
      refine w_iald (v := (F i.toNat 8)) (hL.gyr _ (by show i.toNat < 8; omega)) hL.hu.2.2.2.2.2.1 (by show (0 : Int) ≤ 8; omega) (by show 8 < ((11 : Nat) : Int); omega) (hC.vR (w := 8) (by show i.toNat < 8; omega) (by decide)) ?_
      have hq2 : 0 ≤ (H (12 + 9 * i.toNat)) * (F i.toNat 8) ∧ (H (12 + 9 * i.toNat)) * (F i.toNat 8) ≤ 11988 := ye_mul9 (by omega) (by omega) (by omega) (by omega)
      refine w_mul ⟨by show (-2147483648 : Int) ≤ (H (12 + 9 * i.toNat)) * (F i.toNat 8); omega, by show (H (12 + 9 * i.toNat)) * (F i.toNat 8) < (2147483648 : Int); omega⟩ ?_
      refine w_iast (hL.gyr _ (by show i.toNat < 8; omega)) hL.hu.2.2.2.2.2.1 (hL.hu.1 5 (by decide)) (by show (0 : Int) ≤ 9; omega) (by show 9 < ((11 : Nat) : Int); omega) ?_
      have hC3 := hC.op i.toNat
      have hC4 := hC3.pr (w := (9 : Int).toNat) (v := (H (12 + 9 * i.toNat)) * (F i.toNat 8)) hL (by show i.toNat < 8; omega)
      refine w_aln rfl ?_
      refine w_gr hL.gy hL.hu.2.1 (by decide) rfl (hC4.rf hL.y6) ?_
      refine w_iln rfl ?_
      refine w_aald hL.goa hL.hu.2.2.2.2.2.2.1 (by show (0 : Int) ≤ i; omega) (by show i < ((8 : Nat) : Int); omega) (hC4.rf (hL.ot _ (by show i.toNat < 8; omega))) ?_
      refine w_ic ?_
      refine w_dup2 ?_
      refine w_iald (v := (F i.toNat 1)) (hL.gyr _ (by show i.toNat < 8; omega)) hL.hu.2.2.2.2.2.1 (by show (0 : Int) ≤ 1; omega) (by show 1 < ((11 : Nat) : Int); omega) ((hC4.rr (w := 1) (by show i.toNat < 8; omega) (by decide)).trans ((rv_up_n (by decide)))) ?_
      refine w_aln rfl ?_
      refine w_gr hL.gy hL.hu.2.1 (by decide) rfl (hC4.rf hL.y6) ?_
      refine w_iln rfl ?_
      refine w_aald hL.goa hL.hu.2.2.2.2.2.2.1 (by show (0 : Int) ≤ i; omega) (by show i < ((8 : Nat) : Int); omega) (hC4.rf (hL.ot _ (by show i.toNat < 8; omega))) ?_
      refine w_bp ?_
      refine w_iald (v := (H (12 + 9 * i.toNat)) * (F i.toNat 8)) (hL.gyr _ (by show i.toNat < 8; omega)) hL.hu.2.2.2.2.2.1 (by show (0 : Int) ≤ 9; omega) (by show 9 < ((11 : Nat) : Int); omega) ((hC4.rr (w := 9) (by show i.toNat < 8; omega) (by decide)).trans (rv_up_s)) ?_
      refine w_add ⟨by show (-2147483648 : Int) ≤ (F i.toNat 1) + ((H (12 + 9 * i.toNat)) * (F i.toNat 8)); omega, by show (F i.toNat 1) + ((H (12 + 9 * i.toNat)) * (F i.toNat 8)) < (2147483648 : Int); omega⟩ ?_
      refine w_iast (hL.gyr _ (by show i.toNat < 8; omega)) hL.hu.2.2.2.2.2.1 (hL.hu.1 5 (by decide)) (by show (0 : Int) ≤ 1; omega) (by show 1 < ((11 : Nat) : Int); omega) ?_
      have hC5 := hC4.pr (w := (1 : Int).toNat) (v := (F i.toNat 1) + ((H (12 + 9 * i.toNat)) * (F i.toNat 8))) hL (by show i.toNat < 8; omega)
      refine w_ii rfl ⟨by show (-2147483648 : Int) ≤ i + 1; omega, by show i + 1 < (2147483648 : Int); omega⟩ ?_
      show wz _ _ _ _ [some (.inr (.inr (some y))), some (.inr (.inr (some pl))), some (.inl (i + 1))] _ _ _ _ _
      refine w_goto ?_
      refine ih (i + 1) _ _ _ (by omega) (by omega) (hC5.cg (fun _ _ _ => rfl) ?_) h
      rw [et, ye_R4_s, eF]
      refine ye_ru_c (ye_11 ?_ ?_ ?_ ?_ ?_ ?_ ?_ ?_ ?_ ?_ ?_)
      · refine ((rv_up_n (by decide)).trans ((rv_up_n (by decide)))).trans (Eq.trans (b := R i.toNat 0) ?_ rfl)
        rw [er]
      · refine (rv_up_s).trans (Eq.trans (b := R i.toNat 1 + (R i.toNat 9 + H (12 + 9 * i.toNat) * R i.toNat 8)) ?_ rfl)
        rw [er]; omega
      · refine ((rv_up_n (by decide)).trans ((rv_up_n (by decide)))).trans (Eq.trans (b := R i.toNat 2) ?_ rfl)
        rw [er]
      · refine ((rv_up_n (by decide)).trans ((rv_up_n (by decide)))).trans (Eq.trans (b := R i.toNat 3) ?_ rfl)
        rw [er]
      · refine ((rv_up_n (by decide)).trans ((rv_up_n (by decide)))).trans (Eq.trans (b := R i.toNat 4) ?_ rfl)
        rw [er]
      · refine ((rv_up_n (by decide)).trans ((rv_up_n (by decide)))).trans (Eq.trans (b := R i.toNat 5) ?_ rfl)
        rw [er]
      · refine ((rv_up_n (by decide)).trans ((rv_up_n (by decide)))).trans (Eq.trans (b := R i.toNat 6) ?_ rfl)
        rw [er]
      · refine ((rv_up_n (by decide)).trans ((rv_up_n (by decide)))).trans (Eq.trans (b := R i.toNat 7) ?_ rfl)
        rw [er]
      · refine ((rv_up_n (by decide)).trans ((rv_up_n (by decide)))).trans (Eq.trans (b := R i.toNat 8) ?_ rfl)
        rw [er]
      · refine ((rv_up_n (by decide)).trans (rv_up_s)).trans (Eq.trans (b := R i.toNat 9 + H (12 + 9 * i.toNat) * R i.toNat 8) ?_ rfl)
        rw [er]; omega
      · refine ((rv_up_n (by decide)).trans ((rv_up_n (by decide)))).trans (Eq.trans (b := R i.toNat 10) ?_ rfl)
        rw [er]
      
theorem r_X10_harvest {G : mj_G} {M M0 : mj_M} {u : Nat → Nat} {y la lb lc oa pl ta ba wa dl fa sa ca : Nat} {yr tr br : Nat → Nat} {H : Nat → Int} {g A B C : Nat → Int} {R : Nat → Nat → Int} {Q : mj_P} {d : Nat} (hL : yc_L G M0 u y la lb lc oa yr pl ta ba wa tr br dl fa sa ca H) (hC : yc_S y la lb lc yr M0 g A B C R M) (hH : 0 ≤ H 0 ∧ H 0 ≤ 8) (hT : ∀ j, 4 ≤ j → j < 76 → 0 ≤ H j ∧ H j ≤ 999) (h8 : ∀ t, t < 8 → 0 ≤ R t 8 ∧ R t 8 ≤ 12) (h9 : ∀ t, t < 8 → R t 9 = 0) (h1 : ∀ t, t < 8 → 0 ≤ R t 1 ∧ R t 1 ≤ 1000000) (h : ∀ M, yc_S y la lb lc yr M0 g A B C (ye_R4 H R (H 0).toNat) M → Q none G M) : mj_R mj_tab (d + 2) 94 [.inr (.inr (some y)), .inr (.inr (some pl))] G M Q := by
  refine ⟨Nat.le_of_ble_eq_true rfl, ?_⟩
  show wz (d + 1) mt_X10_harvest.2.2.2.2.1 _ mt_X10_harvest.2.2.2.2.1 [some (.inr (.inr (some y))), some (.inr (.inr (some pl))), none] [] G M _ _
  refine w_ic ?_
  refine w_isn ?_
  show wz _ _ _ _ [some (.inr (.inr (some y))), some (.inr (.inr (some pl))), some (.inl 0)] _ _ _ _ _
  exact r_hvC (d := d) hL hH hT h8 h9 h1 (H 0).toNat 0 _ _ _ (by omega) (by decide) (by rw [show (0 : Int).toNat = 0 from rfl, ye_R4_0]; exact hC) h
theorem r_dkC {G : mj_G} {M0 : mj_M} {u : Nat → Nat} {y la lb lc oa pl ta ba wa dl fa sa ca : Nat} {yr tr br : Nat → Nat} {H : Nat → Int} {x : Int} {g A B C : Nat → Int} {R : Nat → Nat → Int} {Q : mj_P} {d : Nat} (hL : yc_L G M0 u y la lb lc oa yr pl ta ba wa tr br dl fa sa ca H) (hH : 0 ≤ H 0 ∧ H 0 ≤ 8) (hT : ∀ j, 4 ≤ j → j < 76 → 0 ≤ H j ∧ H j ≤ 999) (h3 : 1 ≤ H 3 ∧ H 3 ≤ 12) {m : Int} (hm12 : 0 ≤ m ∧ m ≤ 11) (hF : ∀ t, t < 8 → ye_r2 H m t (R t)) (b7 : -1000000 ≤ g 227 ∧ g 227 ≤ 1000000) (b9 : -1000000 ≤ g 229 ∧ g 229 ≤ 1000000) : ∀ (n : Nat) (i : Int) (M : mj_M) (cb sb : Nat), i + n = H 0 → 0 ≤ i → yc_S y la lb lc yr M0 (ye_g3 H R g i.toNat) A B C (ye_R3 H R i.toNat) M → (∀ M, yc_S y la lb lc yr M0 (ye_g3 H R g (H 0).toNat) A B C (ye_R3 H R (H 0).toNat) M → wz (d + 2) mt_X10_nextMonth.2.2.2.2.1 Q (mt_X10_nextMonth.2.2.2.2.1.drop 42) [some (.inr (.inr (some y))), some (.inr (.inr (some pl))), some (.inr (.inr (some dl))), some (.inl x), some (.inl (H 0))] [] G M cb sb) → wz (d + 2) mt_X10_nextMonth.2.2.2.2.1 Q (mt_X10_nextMonth.2.2.2.2.1.drop 32) [some (.inr (.inr (some y))), some (.inr (.inr (some pl))), some (.inr (.inr (some dl))), some (.inl x), some (.inl i)] [] G M cb sb := by
  intro n
  induction n with
  | zero =>
    intro i M cb sb e i0 hC h
    obtain rfl : i = H 0 := by omega
    refine w_il rfl ?_
    refine w_aln rfl ?_
    refine w_gi hL.gpl rfl (by decide) rfl ((congrFun (hC.oo hL hL.gpl (by decide)) 4).trans hL.n4) ?_
    refine w_cmge (fun c1 => ?_) (fun c1 => ?_)
    · skip
      exact h _ hC
    · exfalso; omega
  | succ n ih =>
    intro i M cb sb e i0 hC h
    have er : ye_R3 H R i.toNat i.toNat = R i.toNat := ye_R3_k
    have et : (i + 1).toNat = i.toNat + 1 := by omega
    have hf : ∀ j, j < 8 → (0 ≤ (fun t => ye_u H t (R t) + ye_fl H t (R t)) j ∧ (fun t => ye_u H t (R t) + ye_fl H t (R t)) j ≤ 1998) ∧ (0 ≤ (fun t => ye_sp H t (R t)) j ∧ (fun t => ye_sp H t (R t)) j ≤ 999) := fun j hj => (ye_dk_b hT h3.1 hj (hF j hj)).2
    have s7 := ye_sm_b (fun j hj => (hf j hj).1) i.toNat (by omega)
    have s9 := ye_sm_b (fun j hj => (hf j hj).2) i.toNat (by omega)
    have g7 : ye_g3 H R g i.toNat 227 = g 227 + ye_sm (fun t => ye_u H t (R t) + ye_fl H t (R t)) i.toNat := (rv_up_n (by decide)).trans rv_up_s
    have g9 : ye_g3 H R g i.toNat 229 = g 229 + ye_sm (fun t => ye_sp H t (R t)) i.toNat := rv_up_s
    obtain ⟨f0, f1, f2, f3, f4, f5, f6, f7, f8, f9, f10⟩ := hF i.toNat (by omega)
    have t5 := hT (5 + 9 * i.toNat) (by omega) (by omega)
    refine w_il rfl ?_
    refine w_aln rfl ?_
    refine w_gi hL.gpl rfl (by decide) rfl ((congrFun (hC.oo hL hL.gpl (by decide)) 4).trans hL.n4) ?_
    refine w_cmge (fun c1 => ?_) (fun c1 => ?_)
    · exfalso; omega
    · skip
      refine w_aln rfl ?_
      refine w_aln rfl ?_
      refine w_il rfl ?_
      refine w_cv (st := []) rfl hL.gy hL.hu.2.1 (Nat.le_of_ble_eq_true rfl) (fun kk h => h) (r_X10_drink (d := d) hL hC (by show 0 ≤ i ∧ i ≤ 7; omega) hT h3 (by rw [er]; omega) (by rw [er]; omega) (by rw [er]; omega) (by rw [er]; omega) (by rw [er]; omega) (by rw [er]; omega) (by rw [er]; omega) (by rw [g7]; omega) (by rw [g9]; omega) (fun M3 hC2 => ?_))
      refine w_ii rfl ⟨by show (-2147483648 : Int) ≤ i + 1; omega, by show i + 1 < (2147483648 : Int); omega⟩ ?_
      show wz _ _ _ _ [some (.inr (.inr (some y))), some (.inr (.inr (some pl))), some (.inr (.inr (some dl))), some (.inl x), some (.inl (i + 1))] _ _ _ _ _
      refine w_goto ?_
      refine ih (i + 1) _ _ _ (by omega) (by omega) (hC2.cg ?_ ?_) h
      · rw [et, er]
        refine ye_10 rfl rfl rfl rfl rfl ?_ rfl ?_ rfl rfl
        · refine ((rv_up_n (by decide)).trans rv_up_s).trans (Eq.trans (b := g 227 + (ye_sm (fun t => ye_u H t (R t) + ye_fl H t (R t)) i.toNat + (ye_u H i.toNat (R i.toNat) + ye_fl H i.toNat (R i.toNat)))) ?_ rfl)
          rw [g7]; omega
        · refine rv_up_s.trans (Eq.trans (b := g 229 + (ye_sm (fun t => ye_sp H t (R t)) i.toNat + ye_sp H i.toNat (R i.toNat))) ?_ rfl)
          rw [g9]; omega
      · rw [et, ye_R3_s, er]; exact fun _ _ _ _ => rfl
theorem r_X10_nextMonth {G : mj_G} {M M0 : mj_M} {u : Nat → Nat} {y la lb lc oa pl ta ba wa dl fa sa ca : Nat} {yr tr br : Nat → Nat} {H : Nat → Int} {g A B C : Nat → Int} {R : Nat → Nat → Int} {Q : mj_P} {d : Nat} (hL : yc_L G M0 u y la lb lc oa yr pl ta ba wa tr br dl fa sa ca H) {mi x : Int} (hC : yc_S y la lb lc yr M0 g A B C R M) (hm : g 222 = mi) (m0 : 0 ≤ mi ∧ mi ≤ 11) (hH : ye_H H) (hk : ye_ok H g A B C R) (hx : 0 ≤ x ∧ x ≤ 99) (h : ∀ A1 B1 C1 M, (∀ j, j < 12 → A1 j = rv_up A mi.toNat (ye_le H R mi.toNat).1 j) → (∀ j, j < 12 → B1 j = rv_up B mi.toNat (ye_le H R mi.toNat).2.1 j) → (∀ j, j < 12 → C1 j = rv_up C mi.toNat (ye_le H R mi.toNat).2.2 j) → yc_S y la lb lc yr M0 (ye_mg H x g R A B) A1 B1 C1 (ye_mR H x g R) M → Q none G M) : mj_R mj_tab (d + 3) 103 [.inr (.inr (some y)), .inr (.inr (some pl)), .inr (.inr (some dl)), .inl x] G M Q := by
  obtain ⟨h0, hm1, hm2, h3, hT, hw, hB, hd⟩ := id hH
  obtain ⟨k2, k3, k4, k5, k6, k7, k8, k9, k10, k11, kR, kz, kl⟩ := id hk
  rw [hm] at k4 k6 k7 k8 k9 k10 k11 kR
  have hlt := ye_le_b (R := R) hH (show mi.toNat < 12 by omega)
  revert hlt h
  rcases hle : ye_le H R mi.toNat with ⟨L, O, P⟩
  intro h hlt
  have ym := ye_mR_e (x := x) hm hle
  have yg := ye_mg_e (x := x) (A := A) (B := B) hm hle
  replace h : ∀ A1 B1 C1 M, (∀ j, j < 12 → A1 j = rv_up A mi.toNat L j) → (∀ j, j < 12 → B1 j = rv_up B mi.toNat O j) → (∀ j, j < 12 → C1 j = rv_up C mi.toNat P j) → yc_S y la lb lc yr M0 (ye_mg H x g R A B) A1 B1 C1 (ye_mR H x g R) M → Q none G M := h
  replace hlt : ye_lt H R L O P := hlt
  have hr1 := ye_R1_b kR h0 hlt
  have lo : (L = 8 ∧ O = -1 ∧ P = 0) ∨ ((0 ≤ L ∧ L < H 0) ∧ (0 ≤ P ∧ P ≤ 999) ∧ (O = -1 ∨ ((0 ≤ O ∧ O < H 0) ∧ O ≠ L))) := by
    rcases hlt with q | ⟨q1, q2, -, q3⟩
    · exact Or.inl q
    · exact Or.inr ⟨q1, q2, q3.imp (fun z => z.1) (fun z => ⟨z.1, z.2.1⟩)⟩
  have dj := hd mi.toNat (by omega)
  have hwm := hw mi.toNat (by omega)
  have hrb : ∀ t, t < 8 → (-1000000 ≤ R t 1 ∧ R t 1 ≤ 1000000) ∧ (-1000000 ≤ R t 5 ∧ R t 5 ≤ 1000000) := fun t ht => by
    obtain ⟨-, a1, -, -, -, a5, -⟩ := kR t ht
    omega
  have hbm : ∀ t, t < 8 → 0 ≤ H (88 + 12 * t + mi.toNat) ∧ H (88 + 12 * t + mi.toNat) ≤ 999 := fun t ht => hB t _ ht (by omega)
  have kg1 : ∀ j, 222 ≤ j → j < 232 → j ≠ 224 → rv_up g 224 (g 224 + P) j = g j := fun j _ _ n => rv_up_n n
  refine ⟨Nat.le_of_ble_eq_true rfl, ?_⟩
  show wz (d + 2) mt_X10_nextMonth.2.2.2.2.1 _ mt_X10_nextMonth.2.2.2.2.1 [some (.inr (.inr (some y))), some (.inr (.inr (some pl))), some (.inr (.inr (some dl))), some (.inl x), none] [] G M _ _
  refine w_aln rfl ?_
  refine w_gi hL.gy hL.hu.2.1 (by decide) rfl ((hC.f (j := 222) (by decide) (by decide) rfl).trans hm) ?_
  refine w_bp ?_
  refine w_cmlt (fun c1 => ?_) (fun c1 => ?_)
  · skip
    refine w_aln rfl ?_
    refine w_aln rfl ?_
    refine w_gi hL.gy hL.hu.2.1 (by decide) rfl ((hC.f (j := 222) (by decide) (by decide) rfl).trans hm) ?_
    refine w_cv (st := []) rfl hL.gdl rfl (Nat.le_of_ble_eq_true rfl) (fun kk h => h) ⟨Nat.le_of_ble_eq_true rfl, ?_⟩
    show wz (d + 1) mt_X1_tells.2.2.2.2.1 _ mt_X1_tells.2.2.2.2.1 [some (.inr (.inr (some dl))), some (.inl mi)] [] _ _ _ _
    refine w_aln rfl ?_
    refine w_gr hL.gdl rfl (by decide) rfl (hC.rf hL.d0) ?_
    refine w_iln rfl ?_
    refine w_iald (v := ((H (184 + 3 * mi.toNat)) - 1)) hL.gfa rfl (by show (0 : Int) ≤ mi; omega) (by show mi < ((12 : Nat) : Int); omega) ((congrFun (hC.oo hL hL.gfa (by decide)) _).trans (hL.nf _ (by show mi.toNat < 12; omega))) ?_
    refine w_ic ?_
    refine w_cmeq (fun c2 => ?_) (fun c2 => ?_)
    · skip
      refine w_ic ?_
      refine w_iret (fun _ => Or.inl rfl) ?_
      refine w_ifeq (fun c3 => ?_) (fun c3 => ?_)
      · skip
        refine w_aln rfl ?_
        refine w_aln rfl ?_
        refine w_cv (st := []) rfl hL.gy hL.hu.2.1 (Nat.le_of_ble_eq_true rfl) (fun kk h => h) (r_X10_letByBids (d := d) hL hC hm m0 (by omega) h0 hbm hrb (by omega) ?_)
        rw [hle]
        intro A1 B1 C1 M1 eA eB eC hC1
        replace eA : ∀ j, j < 12 → A1 j = rv_up A mi.toNat L j := eA
        replace eB : ∀ j, j < 12 → B1 j = rv_up B mi.toNat O j := eB
        replace eC : ∀ j, j < 12 → C1 j = rv_up C mi.toNat P j := eC
        replace hC1 : yc_S y la lb lc yr M0 (rv_up g 224 (g 224 + P)) A1 B1 C1 (ye_R1 R L O P) M1 := hC1
        have aL : A1 mi.toNat = L := (eA _ (by omega)).trans rv_up_s
        have bO : B1 mi.toNat = O := (eB _ (by omega)).trans rv_up_s
        have hm9 : rv_up g 224 (g 224 + P) 222 = mi := (rv_up_n (by decide)).trans hm
        refine w_aln rfl ?_
        refine w_aln rfl ?_
        have g23 := kg1 223 (by decide) (by decide) (by decide)
        have g25 := kg1 225 (by decide) (by decide) (by decide)
        have g31 := kg1 231 (by decide) (by decide) (by decide)
        have g24 : rv_up g 224 (g 224 + P) 224 = g 224 + P := rv_up_s
        refine w_cv (st := []) rfl hL.gy hL.hu.2.1 (Nat.le_of_ble_eq_true rfl) (fun kk h => h) (r_X10_moveRiver (d := d) hL hC1 hm9 m0 h0 hm1 hT (by rw [aL]; omega) (by rw [bO]; omega) (by rw [g23]; exact k3) (by rw [g24]; omega) (by rw [g25]; exact k5) (by rw [g31]; omega) (fun M2 hC2 => ?_))
        rw [aL, bO] at hC2
        have ebr : ∀ k, ye_br H A1 B1 mi.toNat k = ye_br H A B mi.toNat k := fun k => by
          unfold ye_br
          by_cases c : 0 < mi.toNat
          · rw [(eA (mi.toNat - 1) (by omega)).trans (rv_up_n (by omega)), (eB (mi.toNat - 1) (by omega)).trans (rv_up_n (by omega))]
          · rw [if_neg (fun q : 0 < mi.toNat ∧ _ => c q.1), if_neg (fun q : 0 < mi.toNat ∧ _ => c q.1)]
        have eco : ye_co H (rv_up g 224 (g 224 + P)) A1 B1 mi.toNat L O = ye_co H g A B mi.toNat L O := by
          unfold ye_co ye_wy
          rw [g23, ebr, ebr]
        have ewy : ye_wy H (rv_up g 224 (g 224 + P)) L = ye_wy H g L := by unfold ye_wy; rw [g23]
        have eg1 : ∀ j, 222 ≤ j → j < 232 → ye_g1 H (rv_up g 224 (g 224 + P)) A1 B1 mi.toNat L O 0 j = ye_g1 H g A B mi.toNat L O P j := by
          unfold ye_g1
          rw [eco, ewy, g24, g25, g31]
          refine ye_10 ?_ ?_ ?_ ?_ ?_ ?_ ?_ ?_ ?_ ?_
          · rfl
          · rfl
          · refine ((rv_up_n (by decide)).trans ((rv_up_n (by decide)).trans ((rv_up_n (by decide)).trans rv_up_s))).trans (Eq.trans (b := g 224 + P - ye_co H g A B mi.toNat L O) (by omega) rfl)
          · rfl
          · rfl
          · rfl
          · rfl
          · rfl
          · rfl
          · rfl
        have hC3 := hC2.cg eg1 (fun _ _ _ _ => rfl)
        have hm8 : ye_g1 H g A B mi.toNat L O P 222 = mi := hm
        have r1b : ∀ t, t < 8 → 0 ≤ ye_R1 R L O P t 0 ∧ ye_R1 R L O P t 0 ≤ 999 := fun t ht => by
          have q := (hr1 t ht).1
          have q5 := hT (5 + 9 * t) (by omega) (by omega)
          omega
        have r1w : ∀ t w, t < 8 → w < 11 → -500000 ≤ ye_R1 R L O P t w ∧ ye_R1 R L O P t w ≤ 500000 := fun t w ht hw => by
          obtain ⟨a0, a1, a2, a3, a4, a5, a6, a7, a8, a9, a10⟩ := hr1 t ht
          have q5 := hT (5 + 9 * t) (by omega) (by omega)
          revert w
          exact ye_11 (by omega) (by omega) (by omega) (by omega) (by omega) (by omega) (by omega) (by omega) (by omega) (by omega) (by omega)
        refine w_aln rfl ?_
        refine w_aln rfl ?_
        refine w_aln rfl ?_
        refine w_gr hL.gpl rfl (by decide) rfl (hC3.rf hL.p3) ?_
        refine w_aln rfl ?_
        refine w_gi hL.gy hL.hu.2.1 (by decide) rfl ((hC3.f (j := 222) (by decide) (by decide) rfl).trans hm8) ?_
        refine w_iald (v := (H (76 + mi.toNat))) hL.gwa rfl (by show (0 : Int) ≤ mi; omega) (by show mi < ((12 : Nat) : Int); omega) ((congrFun (hC3.oo hL hL.gwa (by decide)) _).trans (hL.nw _ (by show mi.toNat < 12; omega))) ?_
        refine w_iln rfl ?_
        refine w_add ⟨by show (-2147483648 : Int) ≤ (H (76 + mi.toNat)) + x; omega, by show (H (76 + mi.toNat)) + x < (2147483648 : Int); omega⟩ ?_
        have j6 : ye_g1 H g A B mi.toNat L O P 226 = g 226 := rfl
        have j8 : ye_g1 H g A B mi.toNat L O P 228 = g 228 := rfl
        have j9 : ye_g1 H g A B mi.toNat L O P 229 = g 229 := rfl
        have j0 : ye_g1 H g A B mi.toNat L O P 230 = g 230 := rfl
        refine w_cv (st := []) rfl hL.gy hL.hu.2.1 (Nat.le_of_ble_eq_true rfl) (fun kk h => h) (r_X10_pour (d := d) hL hC3 hm8 m0 hT (by show 0 ≤ (H (76 + mi.toNat)) + x ∧ (H (76 + mi.toNat)) + x ≤ 2000; omega) (by rw [aL]; omega) (by rw [bO]; omega) (by rw [aL, bO]; omega) (by rw [aL, bO]; omega) r1w r1b (by rw [j6]; omega) (by rw [j8]; omega) (by rw [j9]; omega) (by rw [j0]; omega) (fun M4 hC4 => ?_))
        rw [aL, bO] at hC4
        refine w_ic ?_
        refine w_is ?_
        show wz _ _ _ _ [some (.inr (.inr (some y))), some (.inr (.inr (some pl))), some (.inr (.inr (some dl))), some (.inl x), some (.inl 0)] _ _ _ _ _
        have hr2 : ∀ t, t < 8 → ye_r2 H mi t ((ye_ml H L O (ye_R2 H (ye_R1 R L O P) L O (H (76 + mi.toNat) + x))) t) := ye_ml_b hT h0 (by omega) (by omega) hr1
        have hse : ∀ t z2 : Int, 0 ≤ t → t ≤ 7 → 0 ≤ z2 → 0 ≤ ye_se H t z2 ∧ ye_se H t z2 ≤ z2 := fun t z2 t1 t2 t3 => ye_se_b hT t1 t2 t3
        have gg2 : ((ye_g2 H (ye_R1 R L O P) (rv_up (ye_g1 H g A B mi.toNat L O P) 226 (ye_g1 H g A B mi.toNat L O P 226 + (H (76 + mi.toNat) + x))) L O (H (76 + mi.toNat) + x)) 227 = g 227 ∧ (-1000000 ≤ (ye_g2 H (ye_R1 R L O P) (rv_up (ye_g1 H g A B mi.toNat L O P) 226 (ye_g1 H g A B mi.toNat L O P 226 + (H (76 + mi.toNat) + x))) L O (H (76 + mi.toNat) + x)) 229 ∧ (ye_g2 H (ye_R1 R L O P) (rv_up (ye_g1 H g A B mi.toNat L O P) 226 (ye_g1 H g A B mi.toNat L O P 226 + (H (76 + mi.toNat) + x))) L O (H (76 + mi.toNat) + x)) 229 ≤ 1000000)) ∧ (ye_g2 H (ye_R1 R L O P) (rv_up (ye_g1 H g A B mi.toNat L O P) 226 (ye_g1 H g A B mi.toNat L O P 226 + (H (76 + mi.toNat) + x))) L O (H (76 + mi.toNat) + x)) 222 = mi := by
          unfold ye_g2
          rcases lo with ⟨rfl, rfl, rfl⟩ | ⟨lo1, lo2, lo3⟩
          · rw [if_pos rfl]
            refine ⟨⟨rfl, ?_⟩, hm⟩
            rw [show ∀ z : Int, rv_up (rv_up (ye_g1 H g A B mi.toNat 8 (-1) 0) 226 (ye_g1 H g A B mi.toNat 8 (-1) 0 226 + (H (76 + mi.toNat) + x))) 229 z 229 = z from fun _ => rv_up_s]
            rw [show rv_up (ye_g1 H g A B mi.toNat 8 (-1) 0) 226 (ye_g1 H g A B mi.toNat 8 (-1) 0 226 + (H (76 + mi.toNat) + x)) 229 = g 229 from rfl]
            omega
          · rw [if_neg (by omega)]
            have rl := hr1 L.toNat (by omega)
            rcases lo3 with lo3 | ⟨lo3, lo4⟩
            · rw [if_pos (by omega)]
              have b1 := ye_se_b (z := H (76 + mi.toNat) + x) hT lo1.1 (by omega) (by omega)
              have b2 := ye_in_b (R := ye_R1 R L O P) (z := H (76 + mi.toNat) + x) hT lo1.1 (by omega) (by omega) rl.1.1 rl.1.2
              refine ⟨⟨rfl, ?_⟩, hm⟩
              unfold ye_c1
              rw [rv_up_s]
              rw [show ∀ a b : Int, rv_up (rv_up (ye_g1 H g A B mi.toNat L O P) 226 a) 230 b 229 = g 229 from fun _ _ => rfl]
              omega
            · rw [if_neg (by omega)]
              have ro := hr1 O.toNat (by omega)
              have e0 : ye_cR H (ye_R1 R L O P) L ((H (76 + mi.toNat) + x) - (H (76 + mi.toNat) + x) / 2) O.toNat = ye_R1 R L O P O.toNat := ye_ru_n (by omega)
              have b1 := ye_se_b (z := (H (76 + mi.toNat) + x) - (H (76 + mi.toNat) + x) / 2) hT lo1.1 (by omega) (by omega)
              have b2 := ye_in_b (R := ye_R1 R L O P) (z := (H (76 + mi.toNat) + x) - (H (76 + mi.toNat) + x) / 2) hT lo1.1 (by omega) (by omega) rl.1.1 rl.1.2
              have b3 := ye_se_b (z := (H (76 + mi.toNat) + x) / 2) hT lo3.1 (by omega) (by omega)
              have b4 := ye_in_b (R := ye_cR H (ye_R1 R L O P) L ((H (76 + mi.toNat) + x) - (H (76 + mi.toNat) + x) / 2)) (z := (H (76 + mi.toNat) + x) / 2) hT lo3.1 (by omega) (by omega) (by rw [e0]; exact ro.1.1) (by rw [e0]; exact ro.1.2)
              refine ⟨⟨rfl, ?_⟩, hm⟩
              unfold ye_c1
              rw [rv_up_s]
              rw [show ∀ a b c e : Int, rv_up (rv_up (rv_up (rv_up (ye_g1 H g A B mi.toNat L O P) 226 a) 230 b) 228 c) 229 e 229 = e from fun _ _ _ _ => rv_up_s]
              rw [show ∀ a b : Int, rv_up (rv_up (ye_g1 H g A B mi.toNat L O P) 226 a) 230 b 229 = g 229 from fun _ _ => rfl]
              omega
        refine r_dkC (d := d) hL h0 hT h3 (m := mi) m0 hr2 (by rw [gg2.1.1]; omega) gg2.1.2 (H 0).toNat 0 _ _ _ (by omega) (by decide) (hC4.cg ?_ ?_) (fun M5 hC5 => ?_)
        · exact ye_10 rfl rfl rfl rfl rfl ((Int.add_zero _).symm.trans rfl) rfl ((Int.add_zero _).symm.trans rfl) rfl rfl
        · rw [show (0 : Int).toNat = 0 from rfl, ye_R3_0]; exact fun _ _ _ _ => rfl
        have hm7 : ye_g3 H (ye_ml H L O (ye_R2 H (ye_R1 R L O P) L O (H (76 + mi.toNat) + x))) (ye_g2 H (ye_R1 R L O P) (rv_up (ye_g1 H g A B mi.toNat L O P) 226 (ye_g1 H g A B mi.toNat L O P 226 + (H (76 + mi.toNat) + x))) L O (H (76 + mi.toNat) + x)) (H 0).toNat 222 = mi := gg2.2
        refine w_aln rfl ?_
        refine w_dupr ?_
        refine w_gi hL.gy hL.hu.2.1 (by decide) rfl ((hC5.f (j := 222) (by decide) (by decide) rfl).trans hm7) ?_
        refine w_ic ?_
        refine w_add ⟨by show (-2147483648 : Int) ≤ mi + 1; omega, by show mi + 1 < (2147483648 : Int); omega⟩ ?_
        refine w_pi hL.gy hL.hu.2.1 (hL.hu.1 0 (by decide)) rfl (fun q => by cases q) ?_
        have hC4 := hC5.pf (j := 222) (v := mi + 1) hL (by decide) (by decide) rfl
        refine w_aln rfl ?_
        refine w_gi hL.gy hL.hu.2.1 (by decide) rfl ((hC4.f (j := 222) (by decide) (by decide) rfl).trans (rv_up_s)) ?_
        refine w_bp ?_
        refine w_cmne (fun c5 => ?_) (fun c5 => ?_)
        · skip
          refine w_ret (h A1 B1 C1 _ eA eB eC ?_)
          rw [ym, yg, if_neg (by omega)]
          exact hC4
        · skip
          refine w_aln rfl ?_
          refine w_aln rfl ?_
          have hr3 : ∀ t, t < 8 → ye_r3 H mi t (ye_dk H t ((ye_ml H L O (ye_R2 H (ye_R1 R L O P) L O (H (76 + mi.toNat) + x))) t)) := fun t ht => (ye_dk_b hT h3.1 ht (hr2 t ht)).1
          have hr4 : ∀ t, t < 8 → (0 ≤ ye_R3 H (ye_ml H L O (ye_R2 H (ye_R1 R L O P) L O (H (76 + mi.toNat) + x))) (H 0).toNat t 8 ∧ ye_R3 H (ye_ml H L O (ye_R2 H (ye_R1 R L O P) L O (H (76 + mi.toNat) + x))) (H 0).toNat t 8 ≤ 12) ∧ ye_R3 H (ye_ml H L O (ye_R2 H (ye_R1 R L O P) L O (H (76 + mi.toNat) + x))) (H 0).toNat t 9 = 0 ∧ (0 ≤ ye_R3 H (ye_ml H L O (ye_R2 H (ye_R1 R L O P) L O (H (76 + mi.toNat) + x))) (H 0).toNat t 1 ∧ ye_R3 H (ye_ml H L O (ye_R2 H (ye_R1 R L O P) L O (H (76 + mi.toNat) + x))) (H 0).toNat t 1 ≤ 1000000) := fun t ht => by
            unfold ye_R3
            by_cases c : t < (H 0).toNat
            · rw [if_pos c]
              obtain ⟨a0, a1, a2, a3, a4, a5, a6, a7, a8, a9, a10⟩ := hr3 t ht
              exact ⟨by omega, a9.2.2 (by omega), by omega⟩
            · rw [if_neg c]
              obtain ⟨a0, a1, a2, a3, a4, a5, a6, a7, a8, a9, a10⟩ := hr2 t ht
              exact ⟨by omega, a9.2.2 (by omega), by omega⟩
          refine w_cv (st := []) rfl hL.gy hL.hu.2.1 (Nat.le_of_ble_eq_true rfl) (fun kk h => h) (r_X10_harvest (d := d) hL hC4 h0 hT (fun t ht => (hr4 t ht).1) (fun t ht => (hr4 t ht).2.1) (fun t ht => (hr4 t ht).2.2) (fun M7 hC7 => ?_))
          refine w_ret (h A1 B1 C1 _ eA eB eC ?_)
          rw [ym, yg, if_pos (by omega)]
          exact hC7
      · exfalso; omega
    · skip
      refine w_ic ?_
      refine w_goto ?_
      refine w_iret (fun _ => Or.inr rfl) ?_
      refine w_ifeq (fun c6 => ?_) (fun c6 => ?_)
      · exfalso; omega
      · skip
        refine w_aln rfl ?_
        refine w_aln rfl ?_
        refine w_cv (st := []) rfl hL.gy hL.hu.2.1 (Nat.le_of_ble_eq_true rfl) (fun kk h => h) (r_X10_letByContract (d := d) hL hC hm m0 (by omega) (by omega) (by omega) (by omega) hrb (by omega) ?_)
        rw [hle]
        intro A1 B1 C1 M1 eA eB eC hC1
        replace eA : ∀ j, j < 12 → A1 j = rv_up A mi.toNat L j := eA
        replace eB : ∀ j, j < 12 → B1 j = rv_up B mi.toNat O j := eB
        replace eC : ∀ j, j < 12 → C1 j = rv_up C mi.toNat P j := eC
        replace hC1 : yc_S y la lb lc yr M0 (rv_up g 224 (g 224 + P)) A1 B1 C1 (ye_R1 R L O P) M1 := hC1
        have aL : A1 mi.toNat = L := (eA _ (by omega)).trans rv_up_s
        have bO : B1 mi.toNat = O := (eB _ (by omega)).trans rv_up_s
        have hm9 : rv_up g 224 (g 224 + P) 222 = mi := (rv_up_n (by decide)).trans hm
        refine w_goto ?_
        refine w_aln rfl ?_
        refine w_aln rfl ?_
        have g23 := kg1 223 (by decide) (by decide) (by decide)
        have g25 := kg1 225 (by decide) (by decide) (by decide)
        have g31 := kg1 231 (by decide) (by decide) (by decide)
        have g24 : rv_up g 224 (g 224 + P) 224 = g 224 + P := rv_up_s
        refine w_cv (st := []) rfl hL.gy hL.hu.2.1 (Nat.le_of_ble_eq_true rfl) (fun kk h => h) (r_X10_moveRiver (d := d) hL hC1 hm9 m0 h0 hm1 hT (by rw [aL]; omega) (by rw [bO]; omega) (by rw [g23]; exact k3) (by rw [g24]; omega) (by rw [g25]; exact k5) (by rw [g31]; omega) (fun M2 hC2 => ?_))
        rw [aL, bO] at hC2
        have ebr : ∀ k, ye_br H A1 B1 mi.toNat k = ye_br H A B mi.toNat k := fun k => by
          unfold ye_br
          by_cases c : 0 < mi.toNat
          · rw [(eA (mi.toNat - 1) (by omega)).trans (rv_up_n (by omega)), (eB (mi.toNat - 1) (by omega)).trans (rv_up_n (by omega))]
          · rw [if_neg (fun q : 0 < mi.toNat ∧ _ => c q.1), if_neg (fun q : 0 < mi.toNat ∧ _ => c q.1)]
        have eco : ye_co H (rv_up g 224 (g 224 + P)) A1 B1 mi.toNat L O = ye_co H g A B mi.toNat L O := by
          unfold ye_co ye_wy
          rw [g23, ebr, ebr]
        have ewy : ye_wy H (rv_up g 224 (g 224 + P)) L = ye_wy H g L := by unfold ye_wy; rw [g23]
        have eg1 : ∀ j, 222 ≤ j → j < 232 → ye_g1 H (rv_up g 224 (g 224 + P)) A1 B1 mi.toNat L O 0 j = ye_g1 H g A B mi.toNat L O P j := by
          unfold ye_g1
          rw [eco, ewy, g24, g25, g31]
          refine ye_10 ?_ ?_ ?_ ?_ ?_ ?_ ?_ ?_ ?_ ?_
          · rfl
          · rfl
          · refine ((rv_up_n (by decide)).trans ((rv_up_n (by decide)).trans ((rv_up_n (by decide)).trans rv_up_s))).trans (Eq.trans (b := g 224 + P - ye_co H g A B mi.toNat L O) (by omega) rfl)
          · rfl
          · rfl
          · rfl
          · rfl
          · rfl
          · rfl
          · rfl
        have hC3 := hC2.cg eg1 (fun _ _ _ _ => rfl)
        have hm8 : ye_g1 H g A B mi.toNat L O P 222 = mi := hm
        have r1b : ∀ t, t < 8 → 0 ≤ ye_R1 R L O P t 0 ∧ ye_R1 R L O P t 0 ≤ 999 := fun t ht => by
          have q := (hr1 t ht).1
          have q5 := hT (5 + 9 * t) (by omega) (by omega)
          omega
        have r1w : ∀ t w, t < 8 → w < 11 → -500000 ≤ ye_R1 R L O P t w ∧ ye_R1 R L O P t w ≤ 500000 := fun t w ht hw => by
          obtain ⟨a0, a1, a2, a3, a4, a5, a6, a7, a8, a9, a10⟩ := hr1 t ht
          have q5 := hT (5 + 9 * t) (by omega) (by omega)
          revert w
          exact ye_11 (by omega) (by omega) (by omega) (by omega) (by omega) (by omega) (by omega) (by omega) (by omega) (by omega) (by omega)
        refine w_aln rfl ?_
        refine w_aln rfl ?_
        refine w_aln rfl ?_
        refine w_gr hL.gpl rfl (by decide) rfl (hC3.rf hL.p3) ?_
        refine w_aln rfl ?_
        refine w_gi hL.gy hL.hu.2.1 (by decide) rfl ((hC3.f (j := 222) (by decide) (by decide) rfl).trans hm8) ?_
        refine w_iald (v := (H (76 + mi.toNat))) hL.gwa rfl (by show (0 : Int) ≤ mi; omega) (by show mi < ((12 : Nat) : Int); omega) ((congrFun (hC3.oo hL hL.gwa (by decide)) _).trans (hL.nw _ (by show mi.toNat < 12; omega))) ?_
        refine w_iln rfl ?_
        refine w_add ⟨by show (-2147483648 : Int) ≤ (H (76 + mi.toNat)) + x; omega, by show (H (76 + mi.toNat)) + x < (2147483648 : Int); omega⟩ ?_
        have j6 : ye_g1 H g A B mi.toNat L O P 226 = g 226 := rfl
        have j8 : ye_g1 H g A B mi.toNat L O P 228 = g 228 := rfl
        have j9 : ye_g1 H g A B mi.toNat L O P 229 = g 229 := rfl
        have j0 : ye_g1 H g A B mi.toNat L O P 230 = g 230 := rfl
        refine w_cv (st := []) rfl hL.gy hL.hu.2.1 (Nat.le_of_ble_eq_true rfl) (fun kk h => h) (r_X10_pour (d := d) hL hC3 hm8 m0 hT (by show 0 ≤ (H (76 + mi.toNat)) + x ∧ (H (76 + mi.toNat)) + x ≤ 2000; omega) (by rw [aL]; omega) (by rw [bO]; omega) (by rw [aL, bO]; omega) (by rw [aL, bO]; omega) r1w r1b (by rw [j6]; omega) (by rw [j8]; omega) (by rw [j9]; omega) (by rw [j0]; omega) (fun M4 hC4 => ?_))
        rw [aL, bO] at hC4
        refine w_ic ?_
        refine w_is ?_
        show wz _ _ _ _ [some (.inr (.inr (some y))), some (.inr (.inr (some pl))), some (.inr (.inr (some dl))), some (.inl x), some (.inl 0)] _ _ _ _ _
        have hr2 : ∀ t, t < 8 → ye_r2 H mi t ((ye_ml H L O (ye_R2 H (ye_R1 R L O P) L O (H (76 + mi.toNat) + x))) t) := ye_ml_b hT h0 (by omega) (by omega) hr1
        have hse : ∀ t z2 : Int, 0 ≤ t → t ≤ 7 → 0 ≤ z2 → 0 ≤ ye_se H t z2 ∧ ye_se H t z2 ≤ z2 := fun t z2 t1 t2 t3 => ye_se_b hT t1 t2 t3
        have gg2 : ((ye_g2 H (ye_R1 R L O P) (rv_up (ye_g1 H g A B mi.toNat L O P) 226 (ye_g1 H g A B mi.toNat L O P 226 + (H (76 + mi.toNat) + x))) L O (H (76 + mi.toNat) + x)) 227 = g 227 ∧ (-1000000 ≤ (ye_g2 H (ye_R1 R L O P) (rv_up (ye_g1 H g A B mi.toNat L O P) 226 (ye_g1 H g A B mi.toNat L O P 226 + (H (76 + mi.toNat) + x))) L O (H (76 + mi.toNat) + x)) 229 ∧ (ye_g2 H (ye_R1 R L O P) (rv_up (ye_g1 H g A B mi.toNat L O P) 226 (ye_g1 H g A B mi.toNat L O P 226 + (H (76 + mi.toNat) + x))) L O (H (76 + mi.toNat) + x)) 229 ≤ 1000000)) ∧ (ye_g2 H (ye_R1 R L O P) (rv_up (ye_g1 H g A B mi.toNat L O P) 226 (ye_g1 H g A B mi.toNat L O P 226 + (H (76 + mi.toNat) + x))) L O (H (76 + mi.toNat) + x)) 222 = mi := by
          unfold ye_g2
          rcases lo with ⟨rfl, rfl, rfl⟩ | ⟨lo1, lo2, lo3⟩
          · rw [if_pos rfl]
            refine ⟨⟨rfl, ?_⟩, hm⟩
            rw [show ∀ z : Int, rv_up (rv_up (ye_g1 H g A B mi.toNat 8 (-1) 0) 226 (ye_g1 H g A B mi.toNat 8 (-1) 0 226 + (H (76 + mi.toNat) + x))) 229 z 229 = z from fun _ => rv_up_s]
            rw [show rv_up (ye_g1 H g A B mi.toNat 8 (-1) 0) 226 (ye_g1 H g A B mi.toNat 8 (-1) 0 226 + (H (76 + mi.toNat) + x)) 229 = g 229 from rfl]
            omega
          · rw [if_neg (by omega)]
            have rl := hr1 L.toNat (by omega)
            rcases lo3 with lo3 | ⟨lo3, lo4⟩
            · rw [if_pos (by omega)]
              have b1 := ye_se_b (z := H (76 + mi.toNat) + x) hT lo1.1 (by omega) (by omega)
              have b2 := ye_in_b (R := ye_R1 R L O P) (z := H (76 + mi.toNat) + x) hT lo1.1 (by omega) (by omega) rl.1.1 rl.1.2
              refine ⟨⟨rfl, ?_⟩, hm⟩
              unfold ye_c1
              rw [rv_up_s]
              rw [show ∀ a b : Int, rv_up (rv_up (ye_g1 H g A B mi.toNat L O P) 226 a) 230 b 229 = g 229 from fun _ _ => rfl]
              omega
            · rw [if_neg (by omega)]
              have ro := hr1 O.toNat (by omega)
              have e0 : ye_cR H (ye_R1 R L O P) L ((H (76 + mi.toNat) + x) - (H (76 + mi.toNat) + x) / 2) O.toNat = ye_R1 R L O P O.toNat := ye_ru_n (by omega)
              have b1 := ye_se_b (z := (H (76 + mi.toNat) + x) - (H (76 + mi.toNat) + x) / 2) hT lo1.1 (by omega) (by omega)
              have b2 := ye_in_b (R := ye_R1 R L O P) (z := (H (76 + mi.toNat) + x) - (H (76 + mi.toNat) + x) / 2) hT lo1.1 (by omega) (by omega) rl.1.1 rl.1.2
              have b3 := ye_se_b (z := (H (76 + mi.toNat) + x) / 2) hT lo3.1 (by omega) (by omega)
              have b4 := ye_in_b (R := ye_cR H (ye_R1 R L O P) L ((H (76 + mi.toNat) + x) - (H (76 + mi.toNat) + x) / 2)) (z := (H (76 + mi.toNat) + x) / 2) hT lo3.1 (by omega) (by omega) (by rw [e0]; exact ro.1.1) (by rw [e0]; exact ro.1.2)
              refine ⟨⟨rfl, ?_⟩, hm⟩
              unfold ye_c1
              rw [rv_up_s]
              rw [show ∀ a b c e : Int, rv_up (rv_up (rv_up (rv_up (ye_g1 H g A B mi.toNat L O P) 226 a) 230 b) 228 c) 229 e 229 = e from fun _ _ _ _ => rv_up_s]
              rw [show ∀ a b : Int, rv_up (rv_up (ye_g1 H g A B mi.toNat L O P) 226 a) 230 b 229 = g 229 from fun _ _ => rfl]
              omega
        refine r_dkC (d := d) hL h0 hT h3 (m := mi) m0 hr2 (by rw [gg2.1.1]; omega) gg2.1.2 (H 0).toNat 0 _ _ _ (by omega) (by decide) (hC4.cg ?_ ?_) (fun M5 hC5 => ?_)
        · exact ye_10 rfl rfl rfl rfl rfl ((Int.add_zero _).symm.trans rfl) rfl ((Int.add_zero _).symm.trans rfl) rfl rfl
        · rw [show (0 : Int).toNat = 0 from rfl, ye_R3_0]; exact fun _ _ _ _ => rfl
        have hm7 : ye_g3 H (ye_ml H L O (ye_R2 H (ye_R1 R L O P) L O (H (76 + mi.toNat) + x))) (ye_g2 H (ye_R1 R L O P) (rv_up (ye_g1 H g A B mi.toNat L O P) 226 (ye_g1 H g A B mi.toNat L O P 226 + (H (76 + mi.toNat) + x))) L O (H (76 + mi.toNat) + x)) (H 0).toNat 222 = mi := gg2.2
        refine w_aln rfl ?_
        refine w_dupr ?_
        refine w_gi hL.gy hL.hu.2.1 (by decide) rfl ((hC5.f (j := 222) (by decide) (by decide) rfl).trans hm7) ?_
        refine w_ic ?_
        refine w_add ⟨by show (-2147483648 : Int) ≤ mi + 1; omega, by show mi + 1 < (2147483648 : Int); omega⟩ ?_
        refine w_pi hL.gy hL.hu.2.1 (hL.hu.1 0 (by decide)) rfl (fun q => by cases q) ?_
        have hC7 := hC5.pf (j := 222) (v := mi + 1) hL (by decide) (by decide) rfl
        refine w_aln rfl ?_
        refine w_gi hL.gy hL.hu.2.1 (by decide) rfl ((hC7.f (j := 222) (by decide) (by decide) rfl).trans (rv_up_s)) ?_
        refine w_bp ?_
        refine w_cmne (fun c8 => ?_) (fun c8 => ?_)
        · skip
          refine w_ret (h A1 B1 C1 _ eA eB eC ?_)
          rw [ym, yg, if_neg (by omega)]
          exact hC7
        · skip
          refine w_aln rfl ?_
          refine w_aln rfl ?_
          have hr3 : ∀ t, t < 8 → ye_r3 H mi t (ye_dk H t ((ye_ml H L O (ye_R2 H (ye_R1 R L O P) L O (H (76 + mi.toNat) + x))) t)) := fun t ht => (ye_dk_b hT h3.1 ht (hr2 t ht)).1
          have hr4 : ∀ t, t < 8 → (0 ≤ ye_R3 H (ye_ml H L O (ye_R2 H (ye_R1 R L O P) L O (H (76 + mi.toNat) + x))) (H 0).toNat t 8 ∧ ye_R3 H (ye_ml H L O (ye_R2 H (ye_R1 R L O P) L O (H (76 + mi.toNat) + x))) (H 0).toNat t 8 ≤ 12) ∧ ye_R3 H (ye_ml H L O (ye_R2 H (ye_R1 R L O P) L O (H (76 + mi.toNat) + x))) (H 0).toNat t 9 = 0 ∧ (0 ≤ ye_R3 H (ye_ml H L O (ye_R2 H (ye_R1 R L O P) L O (H (76 + mi.toNat) + x))) (H 0).toNat t 1 ∧ ye_R3 H (ye_ml H L O (ye_R2 H (ye_R1 R L O P) L O (H (76 + mi.toNat) + x))) (H 0).toNat t 1 ≤ 1000000) := fun t ht => by
            unfold ye_R3
            by_cases c : t < (H 0).toNat
            · rw [if_pos c]
              obtain ⟨a0, a1, a2, a3, a4, a5, a6, a7, a8, a9, a10⟩ := hr3 t ht
              exact ⟨by omega, a9.2.2 (by omega), by omega⟩
            · rw [if_neg c]
              obtain ⟨a0, a1, a2, a3, a4, a5, a6, a7, a8, a9, a10⟩ := hr2 t ht
              exact ⟨by omega, a9.2.2 (by omega), by omega⟩
          refine w_cv (st := []) rfl hL.gy hL.hu.2.1 (Nat.le_of_ble_eq_true rfl) (fun kk h => h) (r_X10_harvest (d := d) hL hC7 h0 hT (fun t ht => (hr4 t ht).1) (fun t ht => (hr4 t ht).2.1) (fun t ht => (hr4 t ht).2.2) (fun M7 hC7 => ?_))
          refine w_ret (h A1 B1 C1 _ eA eB eC ?_)
          rw [ym, yg, if_pos (by omega)]
          exact hC7
  · exfalso; omega
end
section
/-! ===== a MONTH keeps the bounds ===== -/
section YH
variable {H g A B C : Nat → Int} {R : Nat → Nat → Int} {mi x : Int} {L O P W : Int} {t k j : Nat} {r : Nat → Int}
theorem ye_g2_n (h1 : j ≠ 228) (h2 : j ≠ 229) (h3 : j ≠ 230) : ye_g2 H R g L O W j = g j := by
  unfold ye_g2
  by_cases c : L = 8
  · rw [if_pos c, rv_up_n h2]
  · rw [if_neg c]
    by_cases c2 : O < 0
    · rw [if_pos c2]; unfold ye_c1; rw [rv_up_n h2, rv_up_n h1, rv_up_n h3]
    · rw [if_neg c2]; unfold ye_c1; rw [rv_up_n h2, rv_up_n h1, rv_up_n h2, rv_up_n h1, rv_up_n h3]
theorem ye_g3_n (h1 : j ≠ 227) (h2 : j ≠ 229) : ye_g3 H R g k j = g j := by
  unfold ye_g3; rw [rv_up_n h2, rv_up_n h1]
theorem ye_g1_n (h1 : j ≠ 223) (h2 : j ≠ 224) (h3 : j ≠ 225) (h4 : j ≠ 231) {m : Nat} : ye_g1 H g A B m L O P j = g j := by
  unfold ye_g1; rw [rv_up_n h1, rv_up_n h3, rv_up_n h4, rv_up_n h2]
theorem ye_g1_w {m : Nat} : ye_g1 H g A B m L O P 223 = L ∧ ye_g1 H g A B m L O P 224 = g 224 + P - ye_co H g A B m L O ∧ ye_g1 H g A B m L O P 225 = (if g 225 - ye_wy H g L < 0 then 0 else g 225 - ye_wy H g L) ∧ ye_g1 H g A B m L O P 231 = g 231 + ye_co H g A B m L O := ⟨rfl, rfl, rfl, rfl⟩
theorem ye_hv_w : ye_hv H t r 0 = r 0 ∧ ye_hv H t r 1 = r 1 + (r 9 + H (12 + 9 * t) * r 8) ∧ ye_hv H t r 2 = r 2 ∧ ye_hv H t r 3 = r 3 ∧ ye_hv H t r 4 = r 4 ∧ ye_hv H t r 5 = r 5 ∧ ye_hv H t r 6 = r 6 ∧ ye_hv H t r 7 = r 7 ∧ ye_hv H t r 8 = r 8 ∧ ye_hv H t r 9 = r 9 + H (12 + 9 * t) * r 8 ∧ ye_hv H t r 10 = r 10 := ⟨rfl, rfl, rfl, rfl, rfl, rfl, rfl, rfl, rfl, rfl, rfl⟩
/-- what of the WATER seeps, runs over; at most all of it -/
theorem ye_g2_b (hT : ∀ j, 4 ≤ j → j < 76 → 0 ≤ H j ∧ H j ≤ 999) (h0 : 0 ≤ H 0 ∧ H 0 ≤ 8) (hW : 0 ≤ W) (lo : L = 8 ∨ ((0 ≤ L ∧ L < H 0) ∧ (O = -1 ∨ ((0 ≤ O ∧ O < H 0) ∧ O ≠ L)))) (hR : ∀ t : Nat, t < 8 → 0 ≤ R t 0 ∧ R t 0 ≤ H (5 + 9 * t)) : (0 ≤ ye_g2 H R g L O W 228 - g 228 ∧ ye_g2 H R g L O W 228 - g 228 ≤ 2 * W) ∧ (0 ≤ ye_g2 H R g L O W 229 - g 229 ∧ ye_g2 H R g L O W 229 - g 229 ≤ 2 * W) ∧ (0 ≤ ye_g2 H R g L O W 230 - g 230 ∧ ye_g2 H R g L O W 230 - g 230 ≤ 1) := by
  unfold ye_g2
  rcases lo with rfl | ⟨lo1, lo3⟩
  · rw [if_pos rfl, rv_up_s, rv_up_n (by decide), rv_up_n (by decide)]
    omega
  · rw [if_neg (by omega)]
    have rl := hR L.toNat (by omega)
    rcases lo3 with lo3 | ⟨lo3, lo4⟩
    · rw [if_pos (by omega)]
      have b1 := ye_se_b (z := W) hT lo1.1 (by omega) hW
      have b2 := ye_in_b (R := R) (z := W) hT lo1.1 (by omega) hW rl.1 rl.2
      have e8 : ye_c1 H R (rv_up g 230 (g 230 + 1)) L W 228 = g 228 + ye_se H L W := rfl
      have e9 : ye_c1 H R (rv_up g 230 (g 230 + 1)) L W 229 = g 229 + (W - ye_se H L W - ye_in H R L W) := rfl
      have e0 : ye_c1 H R (rv_up g 230 (g 230 + 1)) L W 230 = g 230 + 1 := rfl
      rw [e8, e9, e0]
      omega
    · rw [if_neg (by omega)]
      have ro := hR O.toNat (by omega)
      have e0 : ye_cR H R L (W - W / 2) O.toNat = R O.toNat := ye_ru_n (by omega)
      have b1 := ye_se_b (z := W - W / 2) hT lo1.1 (by omega) (by omega)
      have b2 := ye_in_b (R := R) (z := W - W / 2) hT lo1.1 (by omega) (by omega) rl.1 rl.2
      have b3 := ye_se_b (z := W / 2) hT lo3.1 (by omega) (by omega)
      have b4 := ye_in_b (R := ye_cR H R L (W - W / 2)) (z := W / 2) hT lo3.1 (by omega) (by omega) (by rw [e0]; exact ro.1) (by rw [e0]; exact ro.2)
      have e8 : ye_c1 H (ye_cR H R L (W - W / 2)) (ye_c1 H R (rv_up g 230 (g 230 + 1)) L (W - W / 2)) O (W / 2) 228 = g 228 + ye_se H L (W - W / 2) + ye_se H O (W / 2) := rfl
      have e9 : ye_c1 H (ye_cR H R L (W - W / 2)) (ye_c1 H R (rv_up g 230 (g 230 + 1)) L (W - W / 2)) O (W / 2) 229 = g 229 + (W - W / 2 - ye_se H L (W - W / 2) - ye_in H R L (W - W / 2)) + (W / 2 - ye_se H O (W / 2) - ye_in H (ye_cR H R L (W - W / 2)) O (W / 2)) := rfl
      have e7 : ye_c1 H (ye_cR H R L (W - W / 2)) (ye_c1 H R (rv_up g 230 (g 230 + 1)) L (W - W / 2)) O (W / 2) 230 = g 230 + 1 := rfl
      rw [e8, e9, e7]
      omega
theorem ye_z_b (h0 : 0 ≤ H 0 ∧ H 0 ≤ 8) (lo : L = 8 ∨ ((0 ≤ L ∧ L < H 0) ∧ (O = -1 ∨ (0 ≤ O ∧ O < H 0)))) (ht : t < 8) (hn : H 0 ≤ (t : Int)) (hO : L = 8 → O = -1) : ye_R3 H (ye_ml H L O (ye_R2 H (ye_R1 R L O P) L O W)) (H 0).toNat t = R t := by
  have p1 : ∀ (R2 : Nat → Nat → Int) (k z : Int), 0 ≤ k → k < H 0 → ye_p1 R2 k z t = R2 t := fun R2 k z k0 k1 => ye_ru_n (by omega)
  have pc : ∀ (R2 : Nat → Nat → Int) (k z : Int), 0 ≤ k → k < H 0 → ye_cR H R2 k z t = R2 t := fun R2 k z k0 k1 => ye_ru_n (by omega)
  have e1 : ye_R1 R L O P t = R t := by
    unfold ye_R1
    rcases lo with rfl | ⟨lo1, lo3⟩
    · rw [if_pos rfl]
    · rw [if_neg (by omega)]
      rcases lo3 with lo3 | lo3
      · rw [if_pos (by omega)]; exact p1 _ _ _ lo1.1 lo1.2
      · rw [if_neg (by omega)]; exact (p1 _ _ _ lo3.1 lo3.2).trans (p1 _ _ _ lo1.1 lo1.2)
  have e2 : ye_R2 H (ye_R1 R L O P) L O W t = ye_R1 R L O P t := by
    unfold ye_R2
    rcases lo with rfl | ⟨lo1, lo3⟩
    · rw [if_pos rfl]
    · rw [if_neg (by omega)]
      rcases lo3 with lo3 | lo3
      · rw [if_pos (by omega)]; exact pc _ _ _ lo1.1 lo1.2
      · rw [if_neg (by omega)]; exact (pc _ _ _ lo3.1 lo3.2).trans (pc _ _ _ lo1.1 lo1.2)
  unfold ye_R3
  rw [if_neg (by omega)]
  unfold ye_ml
  rw [if_neg (by omega), e2, e1]
/-- a MONTH keeps what is kept -/
theorem ye_mo_ok (hH : ye_H H) (hk : ye_ok H g A B C R) (hm : g 222 = mi) (m0 : 0 ≤ mi ∧ mi ≤ 11) (hx : 0 ≤ x ∧ x ≤ 99) : ye_ok H (ye_mg H x g R A B) (rv_up A mi.toNat (ye_le H R mi.toNat).1) (rv_up B mi.toNat (ye_le H R mi.toNat).2.1) (rv_up C mi.toNat (ye_le H R mi.toNat).2.2) (ye_mR H x g R) ∧ ye_mg H x g R A B 222 = mi + 1 := by
  obtain ⟨h0, hm1, hm2, h3, hT, hw, hB, hd⟩ := id hH
  obtain ⟨k2, k3, k4, k5, k6, k7, k8, k9, k10, k11, kR, kz, kl⟩ := id hk
  rw [hm] at k4 k6 k7 k8 k9 k10 k11 kR kl
  have hlt := ye_le_b (R := R) hH (show mi.toNat < 12 by omega)
  revert hlt
  rcases hle : ye_le H R mi.toNat with ⟨L, O, P⟩
  intro hlt
  replace hlt : ye_lt H R L O P := hlt
  rw [ye_mR_e hm hle, ye_mg_e hm hle]
  dsimp only
  have hr1 := ye_R1_b kR h0 hlt
  have lo : (L = 8 ∧ O = -1 ∧ P = 0) ∨ ((0 ≤ L ∧ L < H 0) ∧ (0 ≤ P ∧ P ≤ 999) ∧ (O = -1 ∨ ((0 ≤ O ∧ O < H 0) ∧ O ≠ L))) := by
    rcases hlt with q | ⟨q1, q2, -, q3⟩
    · exact Or.inl q
    · exact Or.inr ⟨q1, q2, q3.imp (fun z => z.1) (fun z => ⟨z.1, z.2.1⟩)⟩
  have hwm := hw mi.toNat (by omega)
  have hr2 : ∀ t, t < 8 → ye_r2 H mi t (ye_ml H L O (ye_R2 H (ye_R1 R L O P) L O (H (76 + mi.toNat) + x)) t) := ye_ml_b hT h0 (by omega) (by omega) hr1
  have hf : ∀ j, j < 8 → (0 ≤ (fun t => ye_u H t (ye_ml H L O (ye_R2 H (ye_R1 R L O P) L O (H (76 + mi.toNat) + x)) t) + ye_fl H t (ye_ml H L O (ye_R2 H (ye_R1 R L O P) L O (H (76 + mi.toNat) + x)) t)) j ∧ (fun t => ye_u H t (ye_ml H L O (ye_R2 H (ye_R1 R L O P) L O (H (76 + mi.toNat) + x)) t) + ye_fl H t (ye_ml H L O (ye_R2 H (ye_R1 R L O P) L O (H (76 + mi.toNat) + x)) t)) j ≤ 1998) ∧ (0 ≤ (fun t => ye_sp H t (ye_ml H L O (ye_R2 H (ye_R1 R L O P) L O (H (76 + mi.toNat) + x)) t)) j ∧ (fun t => ye_sp H t (ye_ml H L O (ye_R2 H (ye_R1 R L O P) L O (H (76 + mi.toNat) + x)) t)) j ≤ 999) := fun j hj => (ye_dk_b hT h3.1 hj (hr2 j hj)).2
  have s7 := ye_sm_b (fun j hj => (hf j hj).1) (H 0).toNat (by omega)
  have s9 := ye_sm_b (fun j hj => (hf j hj).2) (H 0).toNat (by omega)
  have b2 := ye_g2_b (g := rv_up (ye_g1 H g A B mi.toNat L O P) 226 (ye_g1 H g A B mi.toNat L O P 226 + (H (76 + mi.toNat) + x))) (R := ye_R1 R L O P) (W := H (76 + mi.toNat) + x) hT h0 (by omega) (L := L) (O := O) (by omega) (fun t ht => (hr1 t ht).1)
  have wy : 0 ≤ ye_wy H g L ∧ ye_wy H g L ≤ 8 := by unfold ye_wy ye_pl; (repeat' split) <;> omega
  have bl := ye_br_b (A := A) (B := B) (m := mi.toNat) (k := L) hT (by omega)
  have bo := ye_br_b (A := A) (B := B) (m := mi.toNat) (k := O) hT (by omega)
  have hq := ye_mulb hm1.1 hm1.2 wy.1 wy.2
  have hc : 0 ≤ ye_co H g A B mi.toNat L O ∧ ye_co H g A B mi.toNat L O ≤ 2790 := by unfold ye_co; omega
  obtain ⟨w3, w4, w5, w1⟩ := ye_g1_w (H := H) (g := g) (A := A) (B := B) (L := L) (O := O) (P := P) (m := mi.toNat)
  have G : ∀ j v : _, rv_up (ye_g3 H (ye_ml H L O (ye_R2 H (ye_R1 R L O P) L O (H (76 + mi.toNat) + x))) (ye_g2 H (ye_R1 R L O P) (rv_up (ye_g1 H g A B mi.toNat L O P) 226 (ye_g1 H g A B mi.toNat L O P 226 + (H (76 + mi.toNat) + x))) L O (H (76 + mi.toNat) + x)) (H 0).toNat) 222 v j = (if j = 222 then v else ye_g3 H (ye_ml H L O (ye_R2 H (ye_R1 R L O P) L O (H (76 + mi.toNat) + x))) (ye_g2 H (ye_R1 R L O P) (rv_up (ye_g1 H g A B mi.toNat L O P) 226 (ye_g1 H g A B mi.toNat L O P 226 + (H (76 + mi.toNat) + x))) L O (H (76 + mi.toNat) + x)) (H 0).toNat j) := fun _ _ => rfl
  have g22 : ∀ v, rv_up (ye_g3 H (ye_ml H L O (ye_R2 H (ye_R1 R L O P) L O (H (76 + mi.toNat) + x))) (ye_g2 H (ye_R1 R L O P) (rv_up (ye_g1 H g A B mi.toNat L O P) 226 (ye_g1 H g A B mi.toNat L O P 226 + (H (76 + mi.toNat) + x))) L O (H (76 + mi.toNat) + x)) (H 0).toNat) 222 v 222 = v := fun _ => rv_up_s
  refine ⟨?_, g22 _⟩
  have kn : ∀ j, j ≠ 222 → j ≠ 227 → j ≠ 228 → j ≠ 229 → j ≠ 230 → j ≠ 226 → ∀ v, rv_up (ye_g3 H (ye_ml H L O (ye_R2 H (ye_R1 R L O P) L O (H (76 + mi.toNat) + x))) (ye_g2 H (ye_R1 R L O P) (rv_up (ye_g1 H g A B mi.toNat L O P) 226 (ye_g1 H g A B mi.toNat L O P 226 + (H (76 + mi.toNat) + x))) L O (H (76 + mi.toNat) + x)) (H 0).toNat) 222 v j = ye_g1 H g A B mi.toNat L O P j := fun j a b c d e f v => by
    rw [rv_up_n a, ye_g3_n b d, ye_g2_n c d e, rv_up_n f]
  have h26 : ∀ v, rv_up (ye_g3 H (ye_ml H L O (ye_R2 H (ye_R1 R L O P) L O (H (76 + mi.toNat) + x))) (ye_g2 H (ye_R1 R L O P) (rv_up (ye_g1 H g A B mi.toNat L O P) 226 (ye_g1 H g A B mi.toNat L O P 226 + (H (76 + mi.toNat) + x))) L O (H (76 + mi.toNat) + x)) (H 0).toNat) 222 v 226 = g 226 + (H (76 + mi.toNat) + x) := fun v => by
    rw [rv_up_n (by decide), ye_g3_n (by decide) (by decide), ye_g2_n (by decide) (by decide) (by decide), rv_up_s, ye_g1_n (by decide) (by decide) (by decide) (by decide)]
  have j8 : rv_up (ye_g1 H g A B mi.toNat L O P) 226 (ye_g1 H g A B mi.toNat L O P 226 + (H (76 + mi.toNat) + x)) 228 = g 228 := by rw [rv_up_n (by decide), ye_g1_n (by decide) (by decide) (by decide) (by decide)]
  have j9 : rv_up (ye_g1 H g A B mi.toNat L O P) 226 (ye_g1 H g A B mi.toNat L O P 226 + (H (76 + mi.toNat) + x)) 229 = g 229 := by rw [rv_up_n (by decide), ye_g1_n (by decide) (by decide) (by decide) (by decide)]
  have j0 : rv_up (ye_g1 H g A B mi.toNat L O P) 226 (ye_g1 H g A B mi.toNat L O P 226 + (H (76 + mi.toNat) + x)) 230 = g 230 := by rw [rv_up_n (by decide), ye_g1_n (by decide) (by decide) (by decide) (by decide)]
  rw [j8, j9, j0] at b2
  have h27 : ∀ v, rv_up (ye_g3 H (ye_ml H L O (ye_R2 H (ye_R1 R L O P) L O (H (76 + mi.toNat) + x))) (ye_g2 H (ye_R1 R L O P) (rv_up (ye_g1 H g A B mi.toNat L O P) 226 (ye_g1 H g A B mi.toNat L O P 226 + (H (76 + mi.toNat) + x))) L O (H (76 + mi.toNat) + x)) (H 0).toNat) 222 v 227 = g 227 + ye_sm (fun t => ye_u H t (ye_ml H L O (ye_R2 H (ye_R1 R L O P) L O (H (76 + mi.toNat) + x)) t) + ye_fl H t (ye_ml H L O (ye_R2 H (ye_R1 R L O P) L O (H (76 + mi.toNat) + x)) t)) (H 0).toNat := fun v => by
    rw [rv_up_n (by decide)]
    unfold ye_g3
    rw [rv_up_n (by decide), rv_up_s, ye_g2_n (by decide) (by decide) (by decide), rv_up_n (by decide), ye_g1_n (by decide) (by decide) (by decide) (by decide)]
  have h28 : ∀ v, rv_up (ye_g3 H (ye_ml H L O (ye_R2 H (ye_R1 R L O P) L O (H (76 + mi.toNat) + x))) (ye_g2 H (ye_R1 R L O P) (rv_up (ye_g1 H g A B mi.toNat L O P) 226 (ye_g1 H g A B mi.toNat L O P 226 + (H (76 + mi.toNat) + x))) L O (H (76 + mi.toNat) + x)) (H 0).toNat) 222 v 228 = ye_g2 H (ye_R1 R L O P) (rv_up (ye_g1 H g A B mi.toNat L O P) 226 (ye_g1 H g A B mi.toNat L O P 226 + (H (76 + mi.toNat) + x))) L O (H (76 + mi.toNat) + x) 228 := fun v => by
    rw [rv_up_n (by decide), ye_g3_n (by decide) (by decide)]
  have h29 : ∀ v, rv_up (ye_g3 H (ye_ml H L O (ye_R2 H (ye_R1 R L O P) L O (H (76 + mi.toNat) + x))) (ye_g2 H (ye_R1 R L O P) (rv_up (ye_g1 H g A B mi.toNat L O P) 226 (ye_g1 H g A B mi.toNat L O P 226 + (H (76 + mi.toNat) + x))) L O (H (76 + mi.toNat) + x)) (H 0).toNat) 222 v 229 = ye_g2 H (ye_R1 R L O P) (rv_up (ye_g1 H g A B mi.toNat L O P) 226 (ye_g1 H g A B mi.toNat L O P 226 + (H (76 + mi.toNat) + x))) L O (H (76 + mi.toNat) + x) 229 + ye_sm (fun t => ye_sp H t (ye_ml H L O (ye_R2 H (ye_R1 R L O P) L O (H (76 + mi.toNat) + x)) t)) (H 0).toNat := fun v => by
    rw [rv_up_n (by decide)]
    unfold ye_g3
    rw [rv_up_s]
  have h30 : ∀ v, rv_up (ye_g3 H (ye_ml H L O (ye_R2 H (ye_R1 R L O P) L O (H (76 + mi.toNat) + x))) (ye_g2 H (ye_R1 R L O P) (rv_up (ye_g1 H g A B mi.toNat L O P) 226 (ye_g1 H g A B mi.toNat L O P 226 + (H (76 + mi.toNat) + x))) L O (H (76 + mi.toNat) + x)) (H 0).toNat) 222 v 230 = ye_g2 H (ye_R1 R L O P) (rv_up (ye_g1 H g A B mi.toNat L O P) 226 (ye_g1 H g A B mi.toNat L O P 226 + (H (76 + mi.toNat) + x))) L O (H (76 + mi.toNat) + x) 230 := fun v => by
    rw [rv_up_n (by decide), ye_g3_n (by decide) (by decide)]
  have hr3 : ∀ t, t < 8 → ye_r3 H mi t (ye_dk H t (ye_ml H L O (ye_R2 H (ye_R1 R L O P) L O (H (76 + mi.toNat) + x)) t)) := fun t ht => (ye_dk_b hT h3.1 ht (hr2 t ht)).1
  have rows : ∀ t, t < 8 → ye_r3 H mi t (ye_R3 H (ye_ml H L O (ye_R2 H (ye_R1 R L O P) L O (H (76 + mi.toNat) + x))) (H 0).toNat t) := fun t ht => by
    unfold ye_R3
    by_cases c : t < (H 0).toNat
    · rw [if_pos c]; exact hr3 t ht
    · rw [if_neg c]
      obtain ⟨a0, a1, a2, a3, a4, a5, a6, a7, a8, a9, a10⟩ := hr2 t ht
      exact ⟨a0, a1, by omega, a3, a4, a5, a6, by omega, by omega, a9, a10⟩
  have fin1 : ∀ t r, ye_r3 H mi t r → mi < 11 → ye_rk H (mi + 1) t r := fun t r q c => by
    obtain ⟨a0, a1, a2, a3, a4, a5, a6, a7, a8, a9, a10⟩ := q
    exact ⟨a0, by omega, a2, a3, a4, by omega, by omega, a7, a8, ⟨a9.1, a9.2.1, fun _ => a9.2.2 (by omega)⟩, a10⟩
  have fin2 : ∀ t r, t < 8 → ye_r3 H mi t r → mi = 11 → ye_rk H (mi + 1) t r ∧ ye_rk H (mi + 1) t (ye_hv H t r) := fun t r ht q c => by
    obtain ⟨a0, a1, a2, a3, a4, a5, a6, a7, a8, a9, a10⟩ := q
    refine ⟨⟨a0, by omega, a2, a3, a4, by omega, by omega, a7, a8, ⟨a9.1, a9.2.1, fun _ => a9.2.2 (by omega)⟩, a10⟩, ?_⟩
    obtain ⟨v0, v1, v2, v3, v4, v5, v6, v7, v8, v9, v10⟩ := ye_hv_w (H := H) (t := t) (r := r)
    have q12 := hT (12 + 9 * t) (by omega) (by omega)
    have qm := ye_mul9 q12.1 q12.2 a8.1 (by omega)
    have z9 := a9.2.2 (by omega)
    unfold ye_rk
    rw [v0, v1, v2, v3, v4, v5, v6, v7, v8, v9, v10]
    exact ⟨a0, by omega, a2, a3, a4, by omega, by omega, a7, a8, ⟨by omega, by omega, fun q => by omega⟩, a10⟩
  refine ⟨by rw [g22]; omega, by rw [kn 223 (by decide) (by decide) (by decide) (by decide) (by decide) (by decide), w3]; omega, by rw [kn 224 (by decide) (by decide) (by decide) (by decide) (by decide) (by decide), w4, g22]; omega, by rw [kn 225 (by decide) (by decide) (by decide) (by decide) (by decide) (by decide), w5]; split <;> omega, by rw [h26, g22]; omega, by rw [h27, g22]; omega, by rw [h28, g22]; omega, by rw [h29, g22]; omega, by rw [h30, g22]; omega, by rw [kn 231 (by decide) (by decide) (by decide) (by decide) (by decide) (by decide), w1, g22]; omega, ?_, ?_, ?_⟩
  · intro t ht
    rw [g22]
    by_cases c : mi = 11
    · rw [if_pos c]
      unfold ye_R4
      by_cases c2 : t < (H 0).toNat
      · rw [if_pos c2]; exact (fin2 t _ ht (rows t ht) c).2
      · rw [if_neg c2]; exact (fin2 t _ ht (rows t ht) c).1
    · rw [if_neg c]; exact fin1 t _ (rows t ht) (by omega)
  · intro t ht hn w hw
    have ez := ye_z_b (R := R) (P := P) (W := H (76 + mi.toNat) + x) h0 (L := L) (O := O) (by omega) ht hn (by omega)
    by_cases c : mi = 11
    · rw [if_pos c]
      unfold ye_R4
      rw [if_neg (by omega), ez]; exact kz t ht hn w hw
    · rw [if_neg c, ez]; exact kz t ht hn w hw
  · intro j hj
    rw [g22] at hj
    by_cases c : j = mi.toNat
    · subst c
      rw [rv_up_s, rv_up_s, rv_up_s]
      omega
    · rw [rv_up_n c, rv_up_n c, rv_up_n c]; exact kl j (by omega)
end YH
end
