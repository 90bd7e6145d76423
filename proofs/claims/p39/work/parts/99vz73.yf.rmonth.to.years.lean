section
/-! ===== a MONTH of the reference as a whole (laid by a program) ===== -/
theorem r_hvR {G : mj_G} {M0 : mj_M} {s m : Nat} {H : Nat → Int} {g A B C : Nat → Int} {R : Nat → Nat → Int} {L O P : Int} {Q : mj_P} {d : Nat} {x mi : Int} {y3 y4 : Option mj_V} {y5 : Int} (hL : yq_L G M0 s m H) (hH : 0 ≤ H 0 ∧ H 0 ≤ 8) (hT : ∀ j, 4 ≤ j → j < 76 → 0 ≤ H j ∧ H j ≤ 999) (h8 : ∀ t, t < 8 → 0 ≤ R t 8 ∧ R t 8 ≤ 12) (h9 : ∀ t, t < 8 → 0 ≤ R t 9 ∧ R t 9 ≤ 12000) (h1 : ∀ t, t < 8 → 0 ≤ R t 1 ∧ R t 1 ≤ 1000000) : ∀ (n : Nat) (i : Int) (M : mj_M) (cb sb : Nat), i + n = H 0 → 0 ≤ i → yq_S s m M0 g A B C (ye_R4 H R i.toNat) L O P M → (∀ M, yq_S s m M0 g A B C (ye_R4 H R (H 0).toNat) L O P M → Q none G M) → wz (d + 3) mt_X12_month.2.2.2.2.1 Q (mt_X12_month.2.2.2.2.1.drop 275) [some (.inr (.inr (some m))), some (.inl x), some (.inl mi), y3, y4, some (.inl y5), some (.inl i)] [] G M cb sb := by
  intro n
  induction n with
  | zero =>
    intro i M cb sb e i0 hC h
    obtain rfl : i = H 0 := by omega
    refine w_il rfl ?_
    refine w_aln rfl ?_
    refine w_gr hL.gm rfl (by decide) rfl (hC.vr hL.m6) ?_
    refine w_ic ?_
    refine w_iald (v := (H 0)) hL.gs rfl (by show (0 : Int) ≤ 0; omega) (by show 0 < ((537 : Nat) : Int); omega) (hC.vn hL (by show (0 : Int).toNat = 0; omega) (by decide)) ?_
    refine w_cmge (fun c1 => ?_) (fun c1 => ?_)
    · skip
      exact w_ret (h _ hC)
    · exfalso; omega
  | succ n ih =>
    intro i M cb sb e i0 hC h
    have t8 := hT (12 + 9 * i.toNat) (by omega) (by omega)
    have er : ye_R4 H R i.toNat i.toNat = R i.toNat := ye_R4_k
    have et : (i + 1).toNat = i.toNat + 1 := by omega
    have q8 : 0 ≤ ye_R4 H R i.toNat i.toNat 8 ∧ ye_R4 H R i.toNat i.toNat 8 ≤ 12 := by rw [er]; exact h8 _ (by omega)
    have q9 : 0 ≤ ye_R4 H R i.toNat i.toNat 9 ∧ ye_R4 H R i.toNat i.toNat 9 ≤ 12000 := by rw [er]; exact h9 _ (by omega)
    have q1 : 0 ≤ ye_R4 H R i.toNat i.toNat 1 ∧ ye_R4 H R i.toNat i.toNat 1 ≤ 1000000 := by rw [er]; exact h1 _ (by omega)
    revert hC q8 q1 q9
    generalize eF : ye_R4 H R i.toNat = F at er
    intro hC q8 q1 q9
    refine w_il rfl ?_
    refine w_aln rfl ?_
    refine w_gr hL.gm rfl (by decide) rfl (hC.vr hL.m6) ?_
    refine w_ic ?_
    refine w_iald (v := (H 0)) hL.gs rfl (by show (0 : Int) ≤ 0; omega) (by show 0 < ((537 : Nat) : Int); omega) (hC.vn hL (by show (0 : Int).toNat = 0; omega) (by decide)) ?_
    refine w_cmge (fun c1 => ?_) (fun c1 => ?_)
    · exfalso; omega
    · skip
      refine w_aln rfl ?_
      refine w_il rfl ?_
      refine w_bp ?_
      refine w_aln rfl ?_
      refine w_il rfl ?_
      refine w_bp ?_
      refine w_cv (st := [.inl 9, .inl i, .inr (.inr (some m))]) rfl hL.gm rfl (Nat.le_of_ble_eq_true rfl) (fun kk h => h) ⟨Nat.le_of_ble_eq_true rfl, ?_⟩
      show wz (d + 2) mt_X12_toldOf.2.2.2.2.1 _ mt_X12_toldOf.2.2.2.2.1 [some (.inr (.inr (some m))), some (.inl i), some (.inl 8)] [] _ _ _ _
      refine w_aln rfl ?_
      refine w_gr hL.gm rfl (by decide) rfl (hC.vr hL.m6) ?_
      refine w_ic ?_
      refine w_bp ?_
      refine w_iln rfl ?_
      refine w_mul ⟨by show (-2147483648 : Int) ≤ 9 * i; omega, by show 9 * i < (2147483648 : Int); omega⟩ ?_
      refine w_add ⟨by show (-2147483648 : Int) ≤ 4 + (9 * i); omega, by show 4 + (9 * i) < (2147483648 : Int); omega⟩ ?_
      refine w_iln rfl ?_
      refine w_add ⟨by show (-2147483648 : Int) ≤ (4 + (9 * i)) + 8; omega, by show (4 + (9 * i)) + 8 < (2147483648 : Int); omega⟩ ?_
      refine w_iald (v := (H (12 + 9 * i.toNat))) hL.gs rfl (by show (0 : Int) ≤ (4 + (9 * i)) + 8; omega) (by show (4 + (9 * i)) + 8 < ((537 : Nat) : Int); omega) (hC.vn hL (by show ((4 + (9 * i)) + 8).toNat = 12 + 9 * i.toNat; omega) (by show 12 + 9 * i.toNat < 221; omega)) ?_
      refine w_iret (fun q => by cases q) ?_
      refine w_aln rfl ?_
      refine w_il rfl ?_
      refine w_bp ?_
      refine w_cv (st := [.inl (H (12 + 9 * i.toNat)), .inl 9, .inl i, .inr (.inr (some m))]) rfl hL.gm rfl (Nat.le_of_ble_eq_true rfl) (fun kk h => h) ⟨Nat.le_of_ble_eq_true rfl, ?_⟩
      show wz (d + 2) mt_X12_of.2.2.2.2.1 _ mt_X12_of.2.2.2.2.1 [some (.inr (.inr (some m))), some (.inl i), some (.inl 8)] [] _ _ _ _
      refine w_aln rfl ?_
      refine w_gr hL.gm rfl (by decide) rfl (hC.vr hL.m6) ?_
      refine w_sp ?_
      refine w_bp ?_
      refine w_iln rfl ?_
      refine w_mul ⟨by show (-2147483648 : Int) ≤ 11 * i; omega, by show 11 * i < (2147483648 : Int); omega⟩ ?_
      refine w_add ⟨by show (-2147483648 : Int) ≤ 232 + (11 * i); omega, by show 232 + (11 * i) < (2147483648 : Int); omega⟩ ?_
      refine w_iln rfl ?_
      refine w_add ⟨by show (-2147483648 : Int) ≤ (232 + (11 * i)) + 8; omega, by show (232 + (11 * i)) + 8 < (2147483648 : Int); omega⟩ ?_
      refine w_iald (v := (F i.toNat 8)) hL.gs rfl (by show (0 : Int) ≤ (232 + (11 * i)) + 8; omega) (by show (232 + (11 * i)) + 8 < ((537 : Nat) : Int); omega) (hC.vR (w := 8) (by show ((232 + (11 * i)) + 8).toNat = 232 + 11 * i.toNat + 8; omega) (by show i.toNat < 8; omega) (by decide)) ?_
      refine w_iret (fun q => by cases q) ?_
      have hq2 : 0 ≤ (H (12 + 9 * i.toNat)) * (F i.toNat 8) ∧ (H (12 + 9 * i.toNat)) * (F i.toNat 8) ≤ 11988 := ye_mul9 (by omega) (by omega) (by omega) (by omega)
      refine w_mul ⟨by show (-2147483648 : Int) ≤ (H (12 + 9 * i.toNat)) * (F i.toNat 8); omega, by show (H (12 + 9 * i.toNat)) * (F i.toNat 8) < (2147483648 : Int); omega⟩ ?_
      refine w_cv (st := []) rfl hL.gm rfl (Nat.le_of_ble_eq_true rfl) (fun kk h => h) ⟨Nat.le_of_ble_eq_true rfl, ?_⟩
      show wz (d + 2) mt_X12_more.2.2.2.2.1 _ mt_X12_more.2.2.2.2.1 [some (.inr (.inr (some m))), some (.inl i), some (.inl 9), some (.inl ((H (12 + 9 * i.toNat)) * (F i.toNat 8)))] [] _ _ _ _
      refine w_aln rfl ?_
      refine w_gr hL.gm rfl (by decide) rfl (hC.vr hL.m6) ?_
      refine w_sp ?_
      refine w_bp ?_
      refine w_iln rfl ?_
      refine w_mul ⟨by show (-2147483648 : Int) ≤ 11 * i; omega, by show 11 * i < (2147483648 : Int); omega⟩ ?_
      refine w_add ⟨by show (-2147483648 : Int) ≤ 232 + (11 * i); omega, by show 232 + (11 * i) < (2147483648 : Int); omega⟩ ?_
      refine w_iln rfl ?_
      refine w_add ⟨by show (-2147483648 : Int) ≤ (232 + (11 * i)) + 9; omega, by show (232 + (11 * i)) + 9 < (2147483648 : Int); omega⟩ ?_
      refine w_dup2 ?_
      refine w_iald (v := (F i.toNat 9)) hL.gs rfl (by show (0 : Int) ≤ (232 + (11 * i)) + 9; omega) (by show (232 + (11 * i)) + 9 < ((537 : Nat) : Int); omega) (hC.vR (w := 9) (by show ((232 + (11 * i)) + 9).toNat = 232 + 11 * i.toNat + 9; omega) (by show i.toNat < 8; omega) (by decide)) ?_
      refine w_iln rfl ?_
      refine w_add ⟨by show (-2147483648 : Int) ≤ (F i.toNat 9) + ((H (12 + 9 * i.toNat)) * (F i.toNat 8)); omega, by show (F i.toNat 9) + ((H (12 + 9 * i.toNat)) * (F i.toNat 8)) < (2147483648 : Int); omega⟩ ?_
      refine w_iast hL.gs rfl (by decide) (by show (0 : Int) ≤ (232 + (11 * i)) + 9; omega) (by show (232 + (11 * i)) + 9 < ((537 : Nat) : Int); omega) ?_
      have hC3 := hC.op i.toNat
      have hC4 := hC3.pr (w := 9) (v := (F i.toNat 9) + ((H (12 + 9 * i.toNat)) * (F i.toNat 8))) hL (by show ((232 + (11 * i)) + 9).toNat = 232 + 11 * i.toNat + 9; omega) (by show i.toNat < 8; omega) (by decide)
      refine w_ret ?_
      refine w_aln rfl ?_
      refine w_il rfl ?_
      refine w_ic ?_
      refine w_aln rfl ?_
      refine w_il rfl ?_
      refine w_bp ?_
      refine w_cv (st := [.inl 1, .inl i, .inr (.inr (some m))]) rfl hL.gm rfl (Nat.le_of_ble_eq_true rfl) (fun kk h => h) ⟨Nat.le_of_ble_eq_true rfl, ?_⟩
      show wz (d + 2) mt_X12_of.2.2.2.2.1 _ mt_X12_of.2.2.2.2.1 [some (.inr (.inr (some m))), some (.inl i), some (.inl 9)] [] _ _ _ _
      refine w_aln rfl ?_
      refine w_gr hL.gm rfl (by decide) rfl (hC4.vr hL.m6) ?_
      refine w_sp ?_
      refine w_bp ?_
      refine w_iln rfl ?_
      refine w_mul ⟨by show (-2147483648 : Int) ≤ 11 * i; omega, by show 11 * i < (2147483648 : Int); omega⟩ ?_
      refine w_add ⟨by show (-2147483648 : Int) ≤ 232 + (11 * i); omega, by show 232 + (11 * i) < (2147483648 : Int); omega⟩ ?_
      refine w_iln rfl ?_
      refine w_add ⟨by show (-2147483648 : Int) ≤ (232 + (11 * i)) + 9; omega, by show (232 + (11 * i)) + 9 < (2147483648 : Int); omega⟩ ?_
      refine w_iald (v := (F i.toNat 9) + ((H (12 + 9 * i.toNat)) * (F i.toNat 8))) hL.gs rfl (by show (0 : Int) ≤ (232 + (11 * i)) + 9; omega) (by show (232 + (11 * i)) + 9 < ((537 : Nat) : Int); omega) ((hC4.rr (w := 9) (by show ((232 + (11 * i)) + 9).toNat = 232 + 11 * i.toNat + 9; omega) (by show i.toNat < 8; omega) (by decide)).trans (rv_up_s)) ?_
      refine w_iret (fun q => by cases q) ?_
      refine w_cv (st := []) rfl hL.gm rfl (Nat.le_of_ble_eq_true rfl) (fun kk h => h) ⟨Nat.le_of_ble_eq_true rfl, ?_⟩
      show wz (d + 2) mt_X12_more.2.2.2.2.1 _ mt_X12_more.2.2.2.2.1 [some (.inr (.inr (some m))), some (.inl i), some (.inl 1), some (.inl ((F i.toNat 9) + ((H (12 + 9 * i.toNat)) * (F i.toNat 8))))] [] _ _ _ _
      refine w_aln rfl ?_
      refine w_gr hL.gm rfl (by decide) rfl (hC4.vr hL.m6) ?_
      refine w_sp ?_
      refine w_bp ?_
      refine w_iln rfl ?_
      refine w_mul ⟨by show (-2147483648 : Int) ≤ 11 * i; omega, by show 11 * i < (2147483648 : Int); omega⟩ ?_
      refine w_add ⟨by show (-2147483648 : Int) ≤ 232 + (11 * i); omega, by show 232 + (11 * i) < (2147483648 : Int); omega⟩ ?_
      refine w_iln rfl ?_
      refine w_add ⟨by show (-2147483648 : Int) ≤ (232 + (11 * i)) + 1; omega, by show (232 + (11 * i)) + 1 < (2147483648 : Int); omega⟩ ?_
      refine w_dup2 ?_
      refine w_iald (v := (F i.toNat 1)) hL.gs rfl (by show (0 : Int) ≤ (232 + (11 * i)) + 1; omega) (by show (232 + (11 * i)) + 1 < ((537 : Nat) : Int); omega) ((hC4.rr (w := 1) (by show ((232 + (11 * i)) + 1).toNat = 232 + 11 * i.toNat + 1; omega) (by show i.toNat < 8; omega) (by decide)).trans ((rv_up_n (by decide)))) ?_
      refine w_iln rfl ?_
      refine w_add ⟨by show (-2147483648 : Int) ≤ (F i.toNat 1) + ((F i.toNat 9) + ((H (12 + 9 * i.toNat)) * (F i.toNat 8))); omega, by show (F i.toNat 1) + ((F i.toNat 9) + ((H (12 + 9 * i.toNat)) * (F i.toNat 8))) < (2147483648 : Int); omega⟩ ?_
      refine w_iast hL.gs rfl (by decide) (by show (0 : Int) ≤ (232 + (11 * i)) + 1; omega) (by show (232 + (11 * i)) + 1 < ((537 : Nat) : Int); omega) ?_
      have hC5 := hC4.pr (w := 1) (v := (F i.toNat 1) + ((F i.toNat 9) + ((H (12 + 9 * i.toNat)) * (F i.toNat 8)))) hL (by show ((232 + (11 * i)) + 1).toNat = 232 + 11 * i.toNat + 1; omega) (by show i.toNat < 8; omega) (by decide)
      refine w_ret ?_
      refine w_ii rfl ⟨by show (-2147483648 : Int) ≤ i + 1; omega, by show i + 1 < (2147483648 : Int); omega⟩ ?_
      show wz _ _ _ _ [some (.inr (.inr (some m))), some (.inl x), some (.inl mi), y3, y4, some (.inl y5), some (.inl (i + 1))] _ _ _ _ _
      refine w_goto ?_
      refine ih (i + 1) _ _ _ (by omega) (by omega) (hC5.cg (fun _ _ _ => rfl) ?_) h
      rw [et, ye_R4_s, eF]
      refine ye_ru_c (ye_11 ?_ ?_ ?_ ?_ ?_ ?_ ?_ ?_ ?_ ?_ ?_)
      · refine ((rv_up_n (by decide)).trans ((rv_up_n (by decide)))).trans (Eq.trans (b := R i.toNat 0) ?_ rfl)
        rw [er]
      · refine (rv_up_s).trans (Eq.trans (b := R i.toNat 1 + (R i.toNat 9 + H (12 + 9 * i.toNat) * R i.toNat 8)) ?_ rfl)
        rw [er]
      · refine ((rv_up_n (by decide)).trans ((rv_up_n (by decide)))).trans (Eq.trans (b := R i.toNat 2) ?_ rfl)
        rw [er]
      · refine ((rv_up_n (by decide)).trans ((rv_up_n (by decide)))).trans (Eq.trans (b := R i.toNat 3) ?_ rfl)
        rw [er]
      · refine ((rv_up_n (by decide)).trans ((rv_up_n (by decide)))).trans (Eq.trans (b := R i.toNat 4) ?_ rfl)
        rw [er]
      · refine ((rv_up_n (by decide)).trans ((rv_up_n (by decide)))).trans (Eq.trans (b := R i.toNat 5) ?_ rfl)
        rw [er]
      · refine ((rv_up_n (by decide)).trans ((rv_up_n (by decide)))).trans (Eq.trans (b := R i.toNat 6) ?_ rfl)
        rw [er]
      · refine ((rv_up_n (by decide)).trans ((rv_up_n (by decide)))).trans (Eq.trans (b := R i.toNat 7) ?_ rfl)
        rw [er]
      · refine ((rv_up_n (by decide)).trans ((rv_up_n (by decide)))).trans (Eq.trans (b := R i.toNat 8) ?_ rfl)
        rw [er]
      · refine ((rv_up_n (by decide)).trans (rv_up_s)).trans (Eq.trans (b := R i.toNat 9 + H (12 + 9 * i.toNat) * R i.toNat 8) ?_ rfl)
        rw [er]
      · refine ((rv_up_n (by decide)).trans ((rv_up_n (by decide)))).trans (Eq.trans (b := R i.toNat 10) ?_ rfl)
        rw [er]
      
section YF
variable {H : Nat → Int} {R : Nat → Nat → Int} {L O : Int} {k : Nat}
/-- the reference's rows while the TOWNS use: mills are paid as each TOWN's turn comes -/
def ye_Rq (H : Nat → Int) (L O : Int) (R : Nat → Nat → Int) (k : Nat) : Nat → Nat → Int := fun t => if t < k then ye_dk H t (ye_ml H L O R t) else R t
theorem ye_Rq_0 : ye_Rq H L O R 0 = R := funext fun t => by unfold ye_Rq; rw [if_neg (by omega)]
theorem ye_Rq_k : ye_Rq H L O R k k = R k := by unfold ye_Rq; rw [if_neg (by omega)]
theorem ye_Rq_s : ye_Rq H L O R (k + 1) = ye_ru (ye_Rq H L O R k) k (ye_dk H k (ye_ml H L O R k)) := funext fun t => by
  by_cases e : t = k
  · subst e; rw [ye_ru_s]; unfold ye_Rq; rw [if_pos (by omega)]
  · rw [ye_ru_n e]; unfold ye_Rq
    by_cases c : t < k
    · rw [if_pos c, if_pos (by omega)]
    · rw [if_neg c, if_neg (by omega)]
theorem ye_Rq_n (h0 : 0 ≤ H 0 ∧ H 0 ≤ 8) (hl : L = 8 ∨ (0 ≤ L ∧ L < H 0)) (ho : O = -1 ∨ (0 ≤ O ∧ O < H 0)) : ∀ t w, t < 8 → w < 11 → ye_Rq H L O R (H 0).toNat t w = ye_R3 H (ye_ml H L O R) (H 0).toNat t w := fun t w ht _ => by
  unfold ye_Rq ye_R3
  by_cases c : t < (H 0).toNat
  · rw [if_pos c, if_pos c]
  · rw [if_neg c, if_neg c]
    unfold ye_ml
    rw [if_neg (by omega)]
end YF
theorem r_usR {G : mj_G} {M0 : mj_M} {s m : Nat} {H : Nat → Int} {g A B C : Nat → Int} {R : Nat → Nat → Int} {L O P : Int} {Q : mj_P} {d : Nat} {x mi : Int} {y3 y4 : Option mj_V} {y5 : Int} (hL : yq_L G M0 s m H) (hH : 0 ≤ H 0 ∧ H 0 ≤ 8) (hT : ∀ j, 4 ≤ j → j < 76 → 0 ≤ H j ∧ H j ≤ 999) (h3 : 1 ≤ H 3 ∧ H 3 ≤ 12) (m0 : 0 ≤ mi ∧ mi ≤ 11) (hl : L = 8 ∨ (0 ≤ L ∧ L < H 0)) (ho : O = -1 ∨ (0 ≤ O ∧ O < H 0)) (hF : ∀ t, t < 8 → ye_r2 H mi t (ye_ml H L O R t)) (hb : ∀ t, t < 8 → (-1000000 ≤ R t 1 ∧ R t 1 ≤ 1000000) ∧ (-1000000 ≤ R t 4 ∧ R t 4 ≤ 1000000)) (b7 : -1000000 ≤ g 227 ∧ g 227 ≤ 1000000) (b9 : -1000000 ≤ g 229 ∧ g 229 ≤ 1000000) : ∀ (n : Nat) (i : Int) (M : mj_M) (cb sb : Nat), i + n = H 0 → 0 ≤ i → yq_S s m M0 (ye_g3 H (ye_ml H L O R) g i.toNat) A B C (ye_Rq H L O R i.toNat) L O P M → (∀ M, yq_S s m M0 (ye_g3 H (ye_ml H L O R) g (H 0).toNat) A B C (ye_Rq H L O R (H 0).toNat) L O P M → wz (d + 3) mt_X12_month.2.2.2.2.1 Q (mt_X12_month.2.2.2.2.1.drop 258) [some (.inr (.inr (some m))), some (.inl x), some (.inl mi), y3, y4, some (.inl y5), some (.inl (H 0))] [] G M cb sb) → wz (d + 3) mt_X12_month.2.2.2.2.1 Q (mt_X12_month.2.2.2.2.1.drop 199) [some (.inr (.inr (some m))), some (.inl x), some (.inl mi), y3, y4, some (.inl y5), some (.inl i)] [] G M cb sb := by
  intro n
  induction n with
  | zero =>
    intro i M cb sb e i0 hC h
    obtain rfl : i = H 0 := by omega
    refine w_il rfl ?_
    refine w_aln rfl ?_
    refine w_gr hL.gm rfl (by decide) rfl (hC.vr hL.m6) ?_
    refine w_ic ?_
    refine w_iald (v := (H 0)) hL.gs rfl (by show (0 : Int) ≤ 0; omega) (by show 0 < ((537 : Nat) : Int); omega) (hC.vn hL (by show (0 : Int).toNat = 0; omega) (by decide)) ?_
    refine w_cmge (fun c1 => ?_) (fun c1 => ?_)
    · skip
      exact h _ hC
    · exfalso; omega
  | succ n ih =>
    intro i M cb sb e i0 hC h
    have er : ye_Rq H L O R i.toNat i.toNat = R i.toNat := ye_Rq_k
    have et : (i + 1).toNat = i.toNat + 1 := by omega
    have hf : ∀ j, j < 8 → (0 ≤ (fun t => ye_u H t (ye_ml H L O R t) + ye_fl H t (ye_ml H L O R t)) j ∧ (fun t => ye_u H t (ye_ml H L O R t) + ye_fl H t (ye_ml H L O R t)) j ≤ 1998) ∧ (0 ≤ (fun t => ye_sp H t (ye_ml H L O R t)) j ∧ (fun t => ye_sp H t (ye_ml H L O R t)) j ≤ 999) := fun j hj => (ye_dk_b hT h3.1 hj (hF j hj)).2
    have s7 := ye_sm_b (fun j hj => (hf j hj).1) i.toNat (by omega)
    have s9 := ye_sm_b (fun j hj => (hf j hj).2) i.toNat (by omega)
    have g7 : ye_g3 H (ye_ml H L O R) g i.toNat 227 = g 227 + ye_sm (fun t => ye_u H t (ye_ml H L O R t) + ye_fl H t (ye_ml H L O R t)) i.toNat := (rv_up_n (by decide)).trans rv_up_s
    have g9 : ye_g3 H (ye_ml H L O R) g i.toNat 229 = g 229 + ye_sm (fun t => ye_sp H t (ye_ml H L O R t)) i.toNat := rv_up_s
    obtain ⟨f0, f1, f2, f3, f4, f5, f6, f7, f8, f9, f10⟩ := hF i.toNat (by omega)
    have t5 := hT (5 + 9 * i.toNat) (by omega) (by omega)
    have t9 := hT (9 + 9 * i.toNat) (by omega) (by omega)
    have q1 : -1000000 ≤ ye_Rq H L O R i.toNat i.toNat 1 ∧ ye_Rq H L O R i.toNat i.toNat 1 ≤ 1000000 := by rw [er]; exact (hb _ (by omega)).1
    have q4 : -1000000 ≤ ye_Rq H L O R i.toNat i.toNat 4 ∧ ye_Rq H L O R i.toNat i.toNat 4 ≤ 1000000 := by rw [er]; exact (hb _ (by omega)).2
    refine w_il rfl ?_
    refine w_aln rfl ?_
    refine w_gr hL.gm rfl (by decide) rfl (hC.vr hL.m6) ?_
    refine w_ic ?_
    refine w_iald (v := (H 0)) hL.gs rfl (by show (0 : Int) ≤ 0; omega) (by show 0 < ((537 : Nat) : Int); omega) (hC.vn hL (by show (0 : Int).toNat = 0; omega) (by decide)) ?_
    refine w_cmge (fun c1 => ?_) (fun c1 => ?_)
    · exfalso; omega
    · skip
      refine w_il rfl ?_
      refine w_aln rfl ?_
      refine w_gi hL.gm rfl (by decide) rfl (hC.2.2.2.1.1) ?_
      refine w_cmeq (fun c2 => ?_) (fun c2 => ?_)
      · skip
        refine w_aln rfl ?_
        refine w_il rfl ?_
        refine w_ic ?_
        refine w_aln rfl ?_
        refine w_il rfl ?_
        refine w_ic ?_
        refine w_cv (st := [.inl 1, .inl i, .inr (.inr (some m))]) rfl hL.gm rfl (Nat.le_of_ble_eq_true rfl) (fun kk h => h) ⟨Nat.le_of_ble_eq_true rfl, ?_⟩
        show wz (d + 2) mt_X12_toldOf.2.2.2.2.1 _ mt_X12_toldOf.2.2.2.2.1 [some (.inr (.inr (some m))), some (.inl i), some (.inl 5)] [] _ _ _ _
        refine w_aln rfl ?_
        refine w_gr hL.gm rfl (by decide) rfl (hC.vr hL.m6) ?_
        refine w_ic ?_
        refine w_bp ?_
        refine w_iln rfl ?_
        refine w_mul ⟨by show (-2147483648 : Int) ≤ 9 * i; omega, by show 9 * i < (2147483648 : Int); omega⟩ ?_
        refine w_add ⟨by show (-2147483648 : Int) ≤ 4 + (9 * i); omega, by show 4 + (9 * i) < (2147483648 : Int); omega⟩ ?_
        refine w_iln rfl ?_
        refine w_add ⟨by show (-2147483648 : Int) ≤ (4 + (9 * i)) + 5; omega, by show (4 + (9 * i)) + 5 < (2147483648 : Int); omega⟩ ?_
        refine w_iald (v := (H (9 + 9 * i.toNat))) hL.gs rfl (by show (0 : Int) ≤ (4 + (9 * i)) + 5; omega) (by show (4 + (9 * i)) + 5 < ((537 : Nat) : Int); omega) (hC.vn hL (by show ((4 + (9 * i)) + 5).toNat = 9 + 9 * i.toNat; omega) (by show 9 + 9 * i.toNat < 221; omega)) ?_
        refine w_iret (fun q => by cases q) ?_
        refine w_cv (st := []) rfl hL.gm rfl (Nat.le_of_ble_eq_true rfl) (fun kk h => h) ⟨Nat.le_of_ble_eq_true rfl, ?_⟩
        show wz (d + 2) mt_X12_more.2.2.2.2.1 _ mt_X12_more.2.2.2.2.1 [some (.inr (.inr (some m))), some (.inl i), some (.inl 1), some (.inl (H (9 + 9 * i.toNat)))] [] _ _ _ _
        refine w_aln rfl ?_
        refine w_gr hL.gm rfl (by decide) rfl (hC.vr hL.m6) ?_
        refine w_sp ?_
        refine w_bp ?_
        refine w_iln rfl ?_
        refine w_mul ⟨by show (-2147483648 : Int) ≤ 11 * i; omega, by show 11 * i < (2147483648 : Int); omega⟩ ?_
        refine w_add ⟨by show (-2147483648 : Int) ≤ 232 + (11 * i); omega, by show 232 + (11 * i) < (2147483648 : Int); omega⟩ ?_
        refine w_iln rfl ?_
        refine w_add ⟨by show (-2147483648 : Int) ≤ (232 + (11 * i)) + 1; omega, by show (232 + (11 * i)) + 1 < (2147483648 : Int); omega⟩ ?_
        refine w_dup2 ?_
        refine w_iald (v := ((ye_Rq H L O R i.toNat) i.toNat 1)) hL.gs rfl (by show (0 : Int) ≤ (232 + (11 * i)) + 1; omega) (by show (232 + (11 * i)) + 1 < ((537 : Nat) : Int); omega) (hC.vR (w := 1) (by show ((232 + (11 * i)) + 1).toNat = 232 + 11 * i.toNat + 1; omega) (by show i.toNat < 8; omega) (by decide)) ?_
        refine w_iln rfl ?_
        refine w_add ⟨by show (-2147483648 : Int) ≤ ((ye_Rq H L O R i.toNat) i.toNat 1) + (H (9 + 9 * i.toNat)); omega, by show ((ye_Rq H L O R i.toNat) i.toNat 1) + (H (9 + 9 * i.toNat)) < (2147483648 : Int); omega⟩ ?_
        refine w_iast hL.gs rfl (by decide) (by show (0 : Int) ≤ (232 + (11 * i)) + 1; omega) (by show (232 + (11 * i)) + 1 < ((537 : Nat) : Int); omega) ?_
        have hC3 := hC.op i.toNat
        have hC4 := hC3.pr (w := 1) (v := ((ye_Rq H L O R i.toNat) i.toNat 1) + (H (9 + 9 * i.toNat))) hL (by show ((232 + (11 * i)) + 1).toNat = 232 + 11 * i.toNat + 1; omega) (by show i.toNat < 8; omega) (by decide)
        refine w_ret ?_
        refine w_aln rfl ?_
        refine w_il rfl ?_
        refine w_ic ?_
        refine w_ic ?_
        refine w_cv (st := []) rfl hL.gm rfl (Nat.le_of_ble_eq_true rfl) (fun kk h => h) ⟨Nat.le_of_ble_eq_true rfl, ?_⟩
        show wz (d + 2) mt_X12_more.2.2.2.2.1 _ mt_X12_more.2.2.2.2.1 [some (.inr (.inr (some m))), some (.inl i), some (.inl 4), some (.inl 1)] [] _ _ _ _
        refine w_aln rfl ?_
        refine w_gr hL.gm rfl (by decide) rfl (hC4.vr hL.m6) ?_
        refine w_sp ?_
        refine w_bp ?_
        refine w_iln rfl ?_
        refine w_mul ⟨by show (-2147483648 : Int) ≤ 11 * i; omega, by show 11 * i < (2147483648 : Int); omega⟩ ?_
        refine w_add ⟨by show (-2147483648 : Int) ≤ 232 + (11 * i); omega, by show 232 + (11 * i) < (2147483648 : Int); omega⟩ ?_
        refine w_iln rfl ?_
        refine w_add ⟨by show (-2147483648 : Int) ≤ (232 + (11 * i)) + 4; omega, by show (232 + (11 * i)) + 4 < (2147483648 : Int); omega⟩ ?_
        refine w_dup2 ?_
        refine w_iald (v := ((ye_Rq H L O R i.toNat) i.toNat 4)) hL.gs rfl (by show (0 : Int) ≤ (232 + (11 * i)) + 4; omega) (by show (232 + (11 * i)) + 4 < ((537 : Nat) : Int); omega) ((hC4.rr (w := 4) (by show ((232 + (11 * i)) + 4).toNat = 232 + 11 * i.toNat + 4; omega) (by show i.toNat < 8; omega) (by decide)).trans ((rv_up_n (by decide)))) ?_
        refine w_iln rfl ?_
        refine w_add ⟨by show (-2147483648 : Int) ≤ ((ye_Rq H L O R i.toNat) i.toNat 4) + 1; omega, by show ((ye_Rq H L O R i.toNat) i.toNat 4) + 1 < (2147483648 : Int); omega⟩ ?_
        refine w_iast hL.gs rfl (by decide) (by show (0 : Int) ≤ (232 + (11 * i)) + 4; omega) (by show (232 + (11 * i)) + 4 < ((537 : Nat) : Int); omega) ?_
        have hC5 := hC4.pr (w := 4) (v := ((ye_Rq H L O R i.toNat) i.toNat 4) + 1) hL (by show ((232 + (11 * i)) + 4).toNat = 232 + 11 * i.toNat + 4; omega) (by show i.toNat < 8; omega) (by decide)
        refine w_ret ?_
        refine w_aln rfl ?_
        refine w_il rfl ?_
        have em : ye_ml H L O R i.toNat = ye_mi H i.toNat (R i.toNat) := by unfold ye_ml; rw [if_pos (by omega)]
        have hC9 := hC5.cg (g2 := (ye_g3 H (ye_ml H L O R) g i.toNat)) (R2 := (ye_ru (ye_Rq H L O R i.toNat) i.toNat (ye_ml H L O R i.toNat))) (fun _ _ _ => rfl) (by rw [em, ← er]; exact fun _ _ _ _ => rfl)
        have er9 : (ye_ru (ye_Rq H L O R i.toNat) i.toNat (ye_ml H L O R i.toNat)) i.toNat = ye_ml H L O R i.toNat := ye_ru_s
        refine w_cv (st := []) rfl hL.gm rfl (Nat.le_of_ble_eq_true rfl) (fun kk h => h) (r_X12_uses (d := d + 1) hL hC9 (by show 0 ≤ i ∧ i ≤ 7; omega) hT h3 (by rw [er9]; omega) (by rw [er9]; omega) (by rw [er9]; omega) (by rw [er9]; omega) (by rw [er9]; omega) (by rw [er9]; exact f3) (by rw [er9]; omega) (by rw [er9]; omega) (by rw [er9]; omega) (by rw [g7]; omega) (by rw [g9]; omega) (fun M7 hC6 => ?_))
        refine w_il rfl ?_
        refine w_aln rfl ?_
        refine w_gi hL.gm rfl (by decide) rfl ((hC6.2.2.1 32 (by decide) (by decide) (by decide)).trans hL.lk) ?_
        refine w_cmne (fun c8 => ?_) (fun c8 => ?_)
        · skip
          refine w_ii rfl ⟨by show (-2147483648 : Int) ≤ i + 1; omega, by show i + 1 < (2147483648 : Int); omega⟩ ?_
          show wz _ _ _ _ [some (.inr (.inr (some m))), some (.inl x), some (.inl mi), y3, y4, some (.inl y5), some (.inl (i + 1))] _ _ _ _ _
          refine w_goto ?_
          refine ih (i + 1) _ _ _ (by omega) (by omega) (hC6.cg ?_ ?_) h
          · rw [et, er9]
            refine ye_10 rfl rfl rfl rfl rfl ?_ rfl ?_ rfl rfl
            · refine ((rv_up_n (by decide)).trans rv_up_s).trans (Eq.trans (b := g 227 + (ye_sm (fun t => ye_u H t (ye_ml H L O R t) + ye_fl H t (ye_ml H L O R t)) i.toNat + (ye_u H i.toNat (ye_ml H L O R i.toNat) + ye_fl H i.toNat (ye_ml H L O R i.toNat)))) ?_ rfl)
              rw [g7]; omega
            · refine rv_up_s.trans (Eq.trans (b := g 229 + (ye_sm (fun t => ye_sp H t (ye_ml H L O R t)) i.toNat + ye_sp H i.toNat (ye_ml H L O R i.toNat))) ?_ rfl)
              rw [g9]; omega
          · rw [et, ye_Rq_s, er9, ye_ru_2]; exact fun _ _ _ _ => rfl
        · exfalso; omega
      · skip
        refine w_il rfl ?_
        refine w_aln rfl ?_
        refine w_gi hL.gm rfl (by decide) rfl (hC.2.2.2.1.2.1) ?_
        refine w_cmne (fun c9 => ?_) (fun c9 => ?_)
        · skip
          refine w_aln rfl ?_
          refine w_il rfl ?_
          have em : ye_ml H L O R i.toNat = R i.toNat := by unfold ye_ml; rw [if_neg (by omega)]
          have hC8 := hC.op i.toNat
          have hC9 := hC8.cg (g2 := (ye_g3 H (ye_ml H L O R) g i.toNat)) (R2 := (ye_ru (ye_Rq H L O R i.toNat) i.toNat (ye_ml H L O R i.toNat))) (fun _ _ _ => rfl) (by rw [em, ← er]; exact fun _ _ _ _ => rfl)
          have er9 : (ye_ru (ye_Rq H L O R i.toNat) i.toNat (ye_ml H L O R i.toNat)) i.toNat = ye_ml H L O R i.toNat := ye_ru_s
          refine w_cv (st := []) rfl hL.gm rfl (Nat.le_of_ble_eq_true rfl) (fun kk h => h) (r_X12_uses (d := d + 1) hL hC9 (by show 0 ≤ i ∧ i ≤ 7; omega) hT h3 (by rw [er9]; omega) (by rw [er9]; omega) (by rw [er9]; omega) (by rw [er9]; omega) (by rw [er9]; omega) (by rw [er9]; exact f3) (by rw [er9]; omega) (by rw [er9]; omega) (by rw [er9]; omega) (by rw [g7]; omega) (by rw [g9]; omega) (fun M11 hC10 => ?_))
          refine w_il rfl ?_
          refine w_aln rfl ?_
          refine w_gi hL.gm rfl (by decide) rfl ((hC10.2.2.1 32 (by decide) (by decide) (by decide)).trans hL.lk) ?_
          refine w_cmne (fun c12 => ?_) (fun c12 => ?_)
          · skip
            refine w_ii rfl ⟨by show (-2147483648 : Int) ≤ i + 1; omega, by show i + 1 < (2147483648 : Int); omega⟩ ?_
            show wz _ _ _ _ [some (.inr (.inr (some m))), some (.inl x), some (.inl mi), y3, y4, some (.inl y5), some (.inl (i + 1))] _ _ _ _ _
            refine w_goto ?_
            refine ih (i + 1) _ _ _ (by omega) (by omega) (hC10.cg ?_ ?_) h
            · rw [et, er9]
              refine ye_10 rfl rfl rfl rfl rfl ?_ rfl ?_ rfl rfl
              · refine ((rv_up_n (by decide)).trans rv_up_s).trans (Eq.trans (b := g 227 + (ye_sm (fun t => ye_u H t (ye_ml H L O R t) + ye_fl H t (ye_ml H L O R t)) i.toNat + (ye_u H i.toNat (ye_ml H L O R i.toNat) + ye_fl H i.toNat (ye_ml H L O R i.toNat)))) ?_ rfl)
                rw [g7]; omega
              · refine rv_up_s.trans (Eq.trans (b := g 229 + (ye_sm (fun t => ye_sp H t (ye_ml H L O R t)) i.toNat + ye_sp H i.toNat (ye_ml H L O R i.toNat))) ?_ rfl)
                rw [g9]; omega
            · rw [et, ye_Rq_s, er9, ye_ru_2]; exact fun _ _ _ _ => rfl
          · exfalso; omega
        · skip
          refine w_aln rfl ?_
          refine w_il rfl ?_
          refine w_ic ?_
          refine w_aln rfl ?_
          refine w_il rfl ?_
          refine w_ic ?_
          refine w_cv (st := [.inl 1, .inl i, .inr (.inr (some m))]) rfl hL.gm rfl (Nat.le_of_ble_eq_true rfl) (fun kk h => h) ⟨Nat.le_of_ble_eq_true rfl, ?_⟩
          show wz (d + 2) mt_X12_toldOf.2.2.2.2.1 _ mt_X12_toldOf.2.2.2.2.1 [some (.inr (.inr (some m))), some (.inl i), some (.inl 5)] [] _ _ _ _
          refine w_aln rfl ?_
          refine w_gr hL.gm rfl (by decide) rfl (hC.vr hL.m6) ?_
          refine w_ic ?_
          refine w_bp ?_
          refine w_iln rfl ?_
          refine w_mul ⟨by show (-2147483648 : Int) ≤ 9 * i; omega, by show 9 * i < (2147483648 : Int); omega⟩ ?_
          refine w_add ⟨by show (-2147483648 : Int) ≤ 4 + (9 * i); omega, by show 4 + (9 * i) < (2147483648 : Int); omega⟩ ?_
          refine w_iln rfl ?_
          refine w_add ⟨by show (-2147483648 : Int) ≤ (4 + (9 * i)) + 5; omega, by show (4 + (9 * i)) + 5 < (2147483648 : Int); omega⟩ ?_
          refine w_iald (v := (H (9 + 9 * i.toNat))) hL.gs rfl (by show (0 : Int) ≤ (4 + (9 * i)) + 5; omega) (by show (4 + (9 * i)) + 5 < ((537 : Nat) : Int); omega) (hC.vn hL (by show ((4 + (9 * i)) + 5).toNat = 9 + 9 * i.toNat; omega) (by show 9 + 9 * i.toNat < 221; omega)) ?_
          refine w_iret (fun q => by cases q) ?_
          refine w_cv (st := []) rfl hL.gm rfl (Nat.le_of_ble_eq_true rfl) (fun kk h => h) ⟨Nat.le_of_ble_eq_true rfl, ?_⟩
          show wz (d + 2) mt_X12_more.2.2.2.2.1 _ mt_X12_more.2.2.2.2.1 [some (.inr (.inr (some m))), some (.inl i), some (.inl 1), some (.inl (H (9 + 9 * i.toNat)))] [] _ _ _ _
          refine w_aln rfl ?_
          refine w_gr hL.gm rfl (by decide) rfl (hC.vr hL.m6) ?_
          refine w_sp ?_
          refine w_bp ?_
          refine w_iln rfl ?_
          refine w_mul ⟨by show (-2147483648 : Int) ≤ 11 * i; omega, by show 11 * i < (2147483648 : Int); omega⟩ ?_
          refine w_add ⟨by show (-2147483648 : Int) ≤ 232 + (11 * i); omega, by show 232 + (11 * i) < (2147483648 : Int); omega⟩ ?_
          refine w_iln rfl ?_
          refine w_add ⟨by show (-2147483648 : Int) ≤ (232 + (11 * i)) + 1; omega, by show (232 + (11 * i)) + 1 < (2147483648 : Int); omega⟩ ?_
          refine w_dup2 ?_
          refine w_iald (v := ((ye_Rq H L O R i.toNat) i.toNat 1)) hL.gs rfl (by show (0 : Int) ≤ (232 + (11 * i)) + 1; omega) (by show (232 + (11 * i)) + 1 < ((537 : Nat) : Int); omega) (hC.vR (w := 1) (by show ((232 + (11 * i)) + 1).toNat = 232 + 11 * i.toNat + 1; omega) (by show i.toNat < 8; omega) (by decide)) ?_
          refine w_iln rfl ?_
          refine w_add ⟨by show (-2147483648 : Int) ≤ ((ye_Rq H L O R i.toNat) i.toNat 1) + (H (9 + 9 * i.toNat)); omega, by show ((ye_Rq H L O R i.toNat) i.toNat 1) + (H (9 + 9 * i.toNat)) < (2147483648 : Int); omega⟩ ?_
          refine w_iast hL.gs rfl (by decide) (by show (0 : Int) ≤ (232 + (11 * i)) + 1; omega) (by show (232 + (11 * i)) + 1 < ((537 : Nat) : Int); omega) ?_
          have hC13 := hC.op i.toNat
          have hC14 := hC13.pr (w := 1) (v := ((ye_Rq H L O R i.toNat) i.toNat 1) + (H (9 + 9 * i.toNat))) hL (by show ((232 + (11 * i)) + 1).toNat = 232 + 11 * i.toNat + 1; omega) (by show i.toNat < 8; omega) (by decide)
          refine w_ret ?_
          refine w_aln rfl ?_
          refine w_il rfl ?_
          refine w_ic ?_
          refine w_ic ?_
          refine w_cv (st := []) rfl hL.gm rfl (Nat.le_of_ble_eq_true rfl) (fun kk h => h) ⟨Nat.le_of_ble_eq_true rfl, ?_⟩
          show wz (d + 2) mt_X12_more.2.2.2.2.1 _ mt_X12_more.2.2.2.2.1 [some (.inr (.inr (some m))), some (.inl i), some (.inl 4), some (.inl 1)] [] _ _ _ _
          refine w_aln rfl ?_
          refine w_gr hL.gm rfl (by decide) rfl (hC14.vr hL.m6) ?_
          refine w_sp ?_
          refine w_bp ?_
          refine w_iln rfl ?_
          refine w_mul ⟨by show (-2147483648 : Int) ≤ 11 * i; omega, by show 11 * i < (2147483648 : Int); omega⟩ ?_
          refine w_add ⟨by show (-2147483648 : Int) ≤ 232 + (11 * i); omega, by show 232 + (11 * i) < (2147483648 : Int); omega⟩ ?_
          refine w_iln rfl ?_
          refine w_add ⟨by show (-2147483648 : Int) ≤ (232 + (11 * i)) + 4; omega, by show (232 + (11 * i)) + 4 < (2147483648 : Int); omega⟩ ?_
          refine w_dup2 ?_
          refine w_iald (v := ((ye_Rq H L O R i.toNat) i.toNat 4)) hL.gs rfl (by show (0 : Int) ≤ (232 + (11 * i)) + 4; omega) (by show (232 + (11 * i)) + 4 < ((537 : Nat) : Int); omega) ((hC14.rr (w := 4) (by show ((232 + (11 * i)) + 4).toNat = 232 + 11 * i.toNat + 4; omega) (by show i.toNat < 8; omega) (by decide)).trans ((rv_up_n (by decide)))) ?_
          refine w_iln rfl ?_
          refine w_add ⟨by show (-2147483648 : Int) ≤ ((ye_Rq H L O R i.toNat) i.toNat 4) + 1; omega, by show ((ye_Rq H L O R i.toNat) i.toNat 4) + 1 < (2147483648 : Int); omega⟩ ?_
          refine w_iast hL.gs rfl (by decide) (by show (0 : Int) ≤ (232 + (11 * i)) + 4; omega) (by show (232 + (11 * i)) + 4 < ((537 : Nat) : Int); omega) ?_
          have hC15 := hC14.pr (w := 4) (v := ((ye_Rq H L O R i.toNat) i.toNat 4) + 1) hL (by show ((232 + (11 * i)) + 4).toNat = 232 + 11 * i.toNat + 4; omega) (by show i.toNat < 8; omega) (by decide)
          refine w_ret ?_
          refine w_aln rfl ?_
          refine w_il rfl ?_
          have em : ye_ml H L O R i.toNat = ye_mi H i.toNat (R i.toNat) := by unfold ye_ml; rw [if_pos (by omega)]
          have hC9 := hC15.cg (g2 := (ye_g3 H (ye_ml H L O R) g i.toNat)) (R2 := (ye_ru (ye_Rq H L O R i.toNat) i.toNat (ye_ml H L O R i.toNat))) (fun _ _ _ => rfl) (by rw [em, ← er]; exact fun _ _ _ _ => rfl)
          have er9 : (ye_ru (ye_Rq H L O R i.toNat) i.toNat (ye_ml H L O R i.toNat)) i.toNat = ye_ml H L O R i.toNat := ye_ru_s
          refine w_cv (st := []) rfl hL.gm rfl (Nat.le_of_ble_eq_true rfl) (fun kk h => h) (r_X12_uses (d := d + 1) hL hC9 (by show 0 ≤ i ∧ i ≤ 7; omega) hT h3 (by rw [er9]; omega) (by rw [er9]; omega) (by rw [er9]; omega) (by rw [er9]; omega) (by rw [er9]; omega) (by rw [er9]; exact f3) (by rw [er9]; omega) (by rw [er9]; omega) (by rw [er9]; omega) (by rw [g7]; omega) (by rw [g9]; omega) (fun M17 hC16 => ?_))
          refine w_il rfl ?_
          refine w_aln rfl ?_
          refine w_gi hL.gm rfl (by decide) rfl ((hC16.2.2.1 32 (by decide) (by decide) (by decide)).trans hL.lk) ?_
          refine w_cmne (fun c18 => ?_) (fun c18 => ?_)
          · skip
            refine w_ii rfl ⟨by show (-2147483648 : Int) ≤ i + 1; omega, by show i + 1 < (2147483648 : Int); omega⟩ ?_
            show wz _ _ _ _ [some (.inr (.inr (some m))), some (.inl x), some (.inl mi), y3, y4, some (.inl y5), some (.inl (i + 1))] _ _ _ _ _
            refine w_goto ?_
            refine ih (i + 1) _ _ _ (by omega) (by omega) (hC16.cg ?_ ?_) h
            · rw [et, er9]
              refine ye_10 rfl rfl rfl rfl rfl ?_ rfl ?_ rfl rfl
              · refine ((rv_up_n (by decide)).trans rv_up_s).trans (Eq.trans (b := g 227 + (ye_sm (fun t => ye_u H t (ye_ml H L O R t) + ye_fl H t (ye_ml H L O R t)) i.toNat + (ye_u H i.toNat (ye_ml H L O R i.toNat) + ye_fl H i.toNat (ye_ml H L O R i.toNat)))) ?_ rfl)
                rw [g7]; omega
              · refine rv_up_s.trans (Eq.trans (b := g 229 + (ye_sm (fun t => ye_sp H t (ye_ml H L O R t)) i.toNat + ye_sp H i.toNat (ye_ml H L O R i.toNat))) ?_ rfl)
                rw [g9]; omega
            · rw [et, ye_Rq_s, er9, ye_ru_2]; exact fun _ _ _ _ => rfl
          · exfalso; omega
def ye_cb (H A B : Nat → Int) (m : Nat) (k i : Int) : Int := if 0 ≤ k ∧ k < i then ye_br H A B m k else 0
theorem r_brR {G : mj_G} {M M0 : mj_M} {s m : Nat} {H : Nat → Int} {g A B C : Nat → Int} {R : Nat → Nat → Int} {L O P : Int} {Q : mj_P} {d : Nat} {y6 : Option mj_V} {x mi : Int} (hL : yq_L G M0 s m H) (hC : yq_S s m M0 g A B C R L O P M) (hH : 0 ≤ H 0 ∧ H 0 ≤ 8) (hT : ∀ j, 4 ≤ j → j < 76 → 0 ≤ H j ∧ H j ≤ 999) (hm : g 222 = mi) (m0 : 0 ≤ mi ∧ mi ≤ 11) (hl : L = 8 ∨ (0 ≤ L ∧ L < H 0)) (ho : O = -1 ∨ (0 ≤ O ∧ O < H 0)) (hn : L ≠ O) {z : Int} (ez : z = H 1 * ye_wy H g L) (b1 : 0 ≤ z ∧ z ≤ 792) : ∀ (n : Nat) (i c : Int) (cb sb : Nat), i + n = H 0 → 0 ≤ i → c = z + ye_cb H A B mi.toNat L i + ye_cb H A B mi.toNat O i → (wz (d + 3) mt_X12_month.2.2.2.2.1 Q (mt_X12_month.2.2.2.2.1.drop 58) [some (.inr (.inr (some m))), some (.inl x), some (.inl mi), some (.inl (ye_wy H g L)), some (.inl (ye_co H g A B mi.toNat L O)), some (.inl (H 0)), y6] [] G M cb sb) → wz (d + 3) mt_X12_month.2.2.2.2.1 Q (mt_X12_month.2.2.2.2.1.drop 30) [some (.inr (.inr (some m))), some (.inl x), some (.inl mi), some (.inl (ye_wy H g L)), some (.inl c), some (.inl i), y6] [] G M cb sb := by
  intro n
  have bl := ye_br_b (A := A) (B := B) (m := mi.toNat) (k := L) hT (by omega)
  have bo := ye_br_b (A := A) (B := B) (m := mi.toNat) (k := O) hT (by omega)
  induction n with
  | zero =>
    intro i c cb sb e i0 hc h
    obtain rfl : i = H 0 := by omega
    have e1 : ye_cb H A B mi.toNat L (H 0) = ye_br H A B mi.toNat L := by
      unfold ye_cb
      by_cases q : L = 8
      · rw [if_neg (by omega)]; unfold ye_br; rw [if_pos (Or.inl q)]
      · rw [if_pos (by omega)]
    have e2 : ye_cb H A B mi.toNat O (H 0) = ye_br H A B mi.toNat O := by
      unfold ye_cb
      by_cases q : O = -1
      · rw [if_neg (by omega)]; unfold ye_br; rw [if_pos (Or.inr q)]
      · rw [if_pos (by omega)]
    have ec : c = ye_co H g A B mi.toNat L O := by unfold ye_co; rw [hc, e1, e2, ez]
    subst ec
    refine w_il rfl ?_
    refine w_aln rfl ?_
    refine w_gr hL.gm rfl (by decide) rfl (hC.vr hL.m6) ?_
    refine w_ic ?_
    refine w_iald (v := (H 0)) hL.gs rfl (by show (0 : Int) ≤ 0; omega) (by show 0 < ((537 : Nat) : Int); omega) (hC.vn hL (by show (0 : Int).toNat = 0; omega) (by decide)) ?_
    refine w_cmge (fun c1 => ?_) (fun c1 => ?_)
    · skip
      exact h
    · exfalso; omega
  | succ n ih =>
    intro i c cb sb e i0 hc h
    have tw := hT (10 + 9 * i.toNat) (by omega) (by omega)
    have cl : 0 ≤ ye_cb H A B mi.toNat L i ∧ ye_cb H A B mi.toNat L i ≤ 999 := by unfold ye_cb; split <;> omega
    have co : 0 ≤ ye_cb H A B mi.toNat O i ∧ ye_cb H A B mi.toNat O i ≤ 999 := by unfold ye_cb; split <;> omega
    refine w_il rfl ?_
    refine w_aln rfl ?_
    refine w_gr hL.gm rfl (by decide) rfl (hC.vr hL.m6) ?_
    refine w_ic ?_
    refine w_iald (v := (H 0)) hL.gs rfl (by show (0 : Int) ≤ 0; omega) (by show 0 < ((537 : Nat) : Int); omega) (hC.vn hL (by show (0 : Int).toNat = 0; omega) (by decide)) ?_
    refine w_cmge (fun c1 => ?_) (fun c1 => ?_)
    · exfalso; omega
    · skip
      refine w_il rfl ?_
      refine w_aln rfl ?_
      refine w_gi hL.gm rfl (by decide) rfl (hC.2.2.2.1.1) ?_
      refine w_cmeq (fun c2 => ?_) (fun c2 => ?_)
      · skip
        refine w_aln rfl ?_
        refine w_il rfl ?_
        refine w_iln rfl ?_
        refine w_cv (st := []) rfl hL.gm rfl (Nat.le_of_ble_eq_true rfl) (fun kk h => h) ⟨Nat.le_of_ble_eq_true rfl, ?_⟩
        show wz (d + 2) mt_X12_wasLet.2.2.2.2.1 _ mt_X12_wasLet.2.2.2.2.1 [some (.inr (.inr (some m))), some (.inl i), some (.inl mi)] [] _ _ _ _
        refine w_iln rfl ?_
        refine w_ifle (fun c3 => ?_) (fun c3 => ?_)
        · skip
          refine w_ic ?_
          refine w_iret (fun _ => Or.inl rfl) ?_
          refine w_ifne (fun c4 => ?_) (fun c4 => ?_)
          · exfalso; omega
          · skip
            refine w_il rfl ?_
            refine w_aln rfl ?_
            refine w_il rfl ?_
            refine w_bp ?_
            refine w_cv (st := [.inl c]) rfl hL.gm rfl (Nat.le_of_ble_eq_true rfl) (fun kk h => h) ⟨Nat.le_of_ble_eq_true rfl, ?_⟩
            show wz (d + 2) mt_X12_toldOf.2.2.2.2.1 _ mt_X12_toldOf.2.2.2.2.1 [some (.inr (.inr (some m))), some (.inl i), some (.inl 6)] [] _ _ _ _
            refine w_aln rfl ?_
            refine w_gr hL.gm rfl (by decide) rfl (hC.vr hL.m6) ?_
            refine w_ic ?_
            refine w_bp ?_
            refine w_iln rfl ?_
            refine w_mul ⟨by show (-2147483648 : Int) ≤ 9 * i; omega, by show 9 * i < (2147483648 : Int); omega⟩ ?_
            refine w_add ⟨by show (-2147483648 : Int) ≤ 4 + (9 * i); omega, by show 4 + (9 * i) < (2147483648 : Int); omega⟩ ?_
            refine w_iln rfl ?_
            refine w_add ⟨by show (-2147483648 : Int) ≤ (4 + (9 * i)) + 6; omega, by show (4 + (9 * i)) + 6 < (2147483648 : Int); omega⟩ ?_
            refine w_iald (v := (H (10 + 9 * i.toNat))) hL.gs rfl (by show (0 : Int) ≤ (4 + (9 * i)) + 6; omega) (by show (4 + (9 * i)) + 6 < ((537 : Nat) : Int); omega) (hC.vn hL (by show ((4 + (9 * i)) + 6).toNat = 10 + 9 * i.toNat; omega) (by show 10 + 9 * i.toNat < 221; omega)) ?_
            refine w_iret (fun q => by cases q) ?_
            refine w_add ⟨by show (-2147483648 : Int) ≤ c + (H (10 + 9 * i.toNat)); omega, by show c + (H (10 + 9 * i.toNat)) < (2147483648 : Int); omega⟩ ?_
            refine w_is ?_
            show wz _ _ _ _ [some (.inr (.inr (some m))), some (.inl x), some (.inl mi), some (.inl (ye_wy H g L)), some (.inl (c + (H (10 + 9 * i.toNat)))), some (.inl i), y6] _ _ _ _ _
            refine w_ii rfl ⟨by show (-2147483648 : Int) ≤ i + 1; omega, by show i + 1 < (2147483648 : Int); omega⟩ ?_
            show wz _ _ _ _ [some (.inr (.inr (some m))), some (.inl x), some (.inl mi), some (.inl (ye_wy H g L)), some (.inl (c + (H (10 + 9 * i.toNat)))), some (.inl (i + 1)), y6] _ _ _ _ _
            refine w_goto ?_
            refine ih (i + 1) _ _ _ (by omega) (by omega) ?_ h
            have kL : ye_cb H A B mi.toNat L (i + 1) = (H (10 + 9 * i.toNat)) ∧ ye_cb H A B mi.toNat L i = 0 := by
              unfold ye_cb ye_br
              rw [if_pos (by omega), if_neg (by omega : ¬ (0 ≤ L ∧ L < i)), show mi.toNat - 1 = (mi - 1).toNat by omega, show L.toNat = i.toNat by omega]
              rw [if_neg (by omega)]
              first | (rw [if_pos (by omega)]; exact ⟨rfl, rfl⟩) | (rw [if_neg (by omega)]; exact ⟨rfl, rfl⟩)
            have kO : ye_cb H A B mi.toNat O (i + 1) = ye_cb H A B mi.toNat O i := by
              unfold ye_cb
              by_cases q : 0 ≤ O ∧ O < i
              · rw [if_pos q, if_pos (by omega)]
              · rw [if_neg q, if_neg (by omega)]
            omega
        · skip
          refine w_aln rfl ?_
          refine w_gr hL.gm rfl (by decide) rfl (hC.vr hL.m6) ?_
          refine w_sp ?_
          refine w_ic ?_
          refine w_iln rfl ?_
          refine w_mul ⟨by show (-2147483648 : Int) ≤ 3 * mi; omega, by show 3 * mi < (2147483648 : Int); omega⟩ ?_
          refine w_add ⟨by show (-2147483648 : Int) ≤ 320 + (3 * mi); omega, by show 320 + (3 * mi) < (2147483648 : Int); omega⟩ ?_
          refine w_ic ?_
          refine w_sub ⟨by show (-2147483648 : Int) ≤ (320 + (3 * mi)) - 3; omega, by show (320 + (3 * mi)) - 3 < (2147483648 : Int); omega⟩ ?_
          refine w_iald (v := (A (mi - 1).toNat)) hL.gs rfl (by show (0 : Int) ≤ (320 + (3 * mi)) - 3; omega) (by show (320 + (3 * mi)) - 3 < ((537 : Nat) : Int); omega) (hC.vA (by show ((320 + (3 * mi)) - 3).toNat = 320 + 3 * (mi - 1).toNat; omega) (by show (mi - 1).toNat < 12; omega)) ?_
          refine w_iln rfl ?_
          refine w_cmeq (fun c5 => ?_) (fun c5 => ?_)
          · skip
            refine w_ic ?_
            refine w_goto ?_
            refine w_iret (fun _ => Or.inr rfl) ?_
            refine w_ifne (fun c6 => ?_) (fun c6 => ?_)
            · skip
              refine w_ii rfl ⟨by show (-2147483648 : Int) ≤ i + 1; omega, by show i + 1 < (2147483648 : Int); omega⟩ ?_
              show wz _ _ _ _ [some (.inr (.inr (some m))), some (.inl x), some (.inl mi), some (.inl (ye_wy H g L)), some (.inl c), some (.inl (i + 1)), y6] _ _ _ _ _
              refine w_goto ?_
              refine ih (i + 1) _ _ _ (by omega) (by omega) ?_ h
              have kL : ye_cb H A B mi.toNat L (i + 1) = 0 ∧ ye_cb H A B mi.toNat L i = 0 := by
                unfold ye_cb ye_br
                rw [if_pos (by omega), if_neg (by omega : ¬ (0 ≤ L ∧ L < i)), show mi.toNat - 1 = (mi - 1).toNat by omega, show L.toNat = i.toNat by omega]
                rw [if_neg (by omega)]
                first | (rw [if_pos (by omega)]; exact ⟨rfl, rfl⟩) | (rw [if_neg (by omega)]; exact ⟨rfl, rfl⟩)
              have kO : ye_cb H A B mi.toNat O (i + 1) = ye_cb H A B mi.toNat O i := by
                unfold ye_cb
                by_cases q : 0 ≤ O ∧ O < i
                · rw [if_pos q, if_pos (by omega)]
                · rw [if_neg q, if_neg (by omega)]
              omega
            · exfalso; omega
          · skip
            refine w_aln rfl ?_
            refine w_gr hL.gm rfl (by decide) rfl (hC.vr hL.m6) ?_
            refine w_sp ?_
            refine w_ic ?_
            refine w_iln rfl ?_
            refine w_mul ⟨by show (-2147483648 : Int) ≤ 3 * mi; omega, by show 3 * mi < (2147483648 : Int); omega⟩ ?_
            refine w_add ⟨by show (-2147483648 : Int) ≤ 320 + (3 * mi); omega, by show 320 + (3 * mi) < (2147483648 : Int); omega⟩ ?_
            refine w_ic ?_
            refine w_sub ⟨by show (-2147483648 : Int) ≤ (320 + (3 * mi)) - 2; omega, by show (320 + (3 * mi)) - 2 < (2147483648 : Int); omega⟩ ?_
            refine w_iald (v := (B (mi - 1).toNat)) hL.gs rfl (by show (0 : Int) ≤ (320 + (3 * mi)) - 2; omega) (by show (320 + (3 * mi)) - 2 < ((537 : Nat) : Int); omega) (hC.vB (by show ((320 + (3 * mi)) - 2).toNat = 321 + 3 * (mi - 1).toNat; omega) (by show (mi - 1).toNat < 12; omega)) ?_
            refine w_iln rfl ?_
            refine w_cmne (fun c7 => ?_) (fun c7 => ?_)
            · skip
              refine w_ic ?_
              refine w_iret (fun _ => Or.inl rfl) ?_
              refine w_ifne (fun c8 => ?_) (fun c8 => ?_)
              · exfalso; omega
              · skip
                refine w_il rfl ?_
                refine w_aln rfl ?_
                refine w_il rfl ?_
                refine w_bp ?_
                refine w_cv (st := [.inl c]) rfl hL.gm rfl (Nat.le_of_ble_eq_true rfl) (fun kk h => h) ⟨Nat.le_of_ble_eq_true rfl, ?_⟩
                show wz (d + 2) mt_X12_toldOf.2.2.2.2.1 _ mt_X12_toldOf.2.2.2.2.1 [some (.inr (.inr (some m))), some (.inl i), some (.inl 6)] [] _ _ _ _
                refine w_aln rfl ?_
                refine w_gr hL.gm rfl (by decide) rfl (hC.vr hL.m6) ?_
                refine w_ic ?_
                refine w_bp ?_
                refine w_iln rfl ?_
                refine w_mul ⟨by show (-2147483648 : Int) ≤ 9 * i; omega, by show 9 * i < (2147483648 : Int); omega⟩ ?_
                refine w_add ⟨by show (-2147483648 : Int) ≤ 4 + (9 * i); omega, by show 4 + (9 * i) < (2147483648 : Int); omega⟩ ?_
                refine w_iln rfl ?_
                refine w_add ⟨by show (-2147483648 : Int) ≤ (4 + (9 * i)) + 6; omega, by show (4 + (9 * i)) + 6 < (2147483648 : Int); omega⟩ ?_
                refine w_iald (v := (H (10 + 9 * i.toNat))) hL.gs rfl (by show (0 : Int) ≤ (4 + (9 * i)) + 6; omega) (by show (4 + (9 * i)) + 6 < ((537 : Nat) : Int); omega) (hC.vn hL (by show ((4 + (9 * i)) + 6).toNat = 10 + 9 * i.toNat; omega) (by show 10 + 9 * i.toNat < 221; omega)) ?_
                refine w_iret (fun q => by cases q) ?_
                refine w_add ⟨by show (-2147483648 : Int) ≤ c + (H (10 + 9 * i.toNat)); omega, by show c + (H (10 + 9 * i.toNat)) < (2147483648 : Int); omega⟩ ?_
                refine w_is ?_
                show wz _ _ _ _ [some (.inr (.inr (some m))), some (.inl x), some (.inl mi), some (.inl (ye_wy H g L)), some (.inl (c + (H (10 + 9 * i.toNat)))), some (.inl i), y6] _ _ _ _ _
                refine w_ii rfl ⟨by show (-2147483648 : Int) ≤ i + 1; omega, by show i + 1 < (2147483648 : Int); omega⟩ ?_
                show wz _ _ _ _ [some (.inr (.inr (some m))), some (.inl x), some (.inl mi), some (.inl (ye_wy H g L)), some (.inl (c + (H (10 + 9 * i.toNat)))), some (.inl (i + 1)), y6] _ _ _ _ _
                refine w_goto ?_
                refine ih (i + 1) _ _ _ (by omega) (by omega) ?_ h
                have kL : ye_cb H A B mi.toNat L (i + 1) = (H (10 + 9 * i.toNat)) ∧ ye_cb H A B mi.toNat L i = 0 := by
                  unfold ye_cb ye_br
                  rw [if_pos (by omega), if_neg (by omega : ¬ (0 ≤ L ∧ L < i)), show mi.toNat - 1 = (mi - 1).toNat by omega, show L.toNat = i.toNat by omega]
                  rw [if_neg (by omega)]
                  first | (rw [if_pos (by omega)]; exact ⟨rfl, rfl⟩) | (rw [if_neg (by omega)]; exact ⟨rfl, rfl⟩)
                have kO : ye_cb H A B mi.toNat O (i + 1) = ye_cb H A B mi.toNat O i := by
                  unfold ye_cb
                  by_cases q : 0 ≤ O ∧ O < i
                  · rw [if_pos q, if_pos (by omega)]
                  · rw [if_neg q, if_neg (by omega)]
                omega
            · skip
              refine w_ic ?_
              refine w_goto ?_
              refine w_iret (fun _ => Or.inr rfl) ?_
              refine w_ifne (fun c9 => ?_) (fun c9 => ?_)
              · skip
                refine w_ii rfl ⟨by show (-2147483648 : Int) ≤ i + 1; omega, by show i + 1 < (2147483648 : Int); omega⟩ ?_
                show wz _ _ _ _ [some (.inr (.inr (some m))), some (.inl x), some (.inl mi), some (.inl (ye_wy H g L)), some (.inl c), some (.inl (i + 1)), y6] _ _ _ _ _
                refine w_goto ?_
                refine ih (i + 1) _ _ _ (by omega) (by omega) ?_ h
                have kL : ye_cb H A B mi.toNat L (i + 1) = 0 ∧ ye_cb H A B mi.toNat L i = 0 := by
                  unfold ye_cb ye_br
                  rw [if_pos (by omega), if_neg (by omega : ¬ (0 ≤ L ∧ L < i)), show mi.toNat - 1 = (mi - 1).toNat by omega, show L.toNat = i.toNat by omega]
                  rw [if_neg (by omega)]
                  first | (rw [if_pos (by omega)]; exact ⟨rfl, rfl⟩) | (rw [if_neg (by omega)]; exact ⟨rfl, rfl⟩)
                have kO : ye_cb H A B mi.toNat O (i + 1) = ye_cb H A B mi.toNat O i := by
                  unfold ye_cb
                  by_cases q : 0 ≤ O ∧ O < i
                  · rw [if_pos q, if_pos (by omega)]
                  · rw [if_neg q, if_neg (by omega)]
                omega
              · exfalso; omega
      · skip
        refine w_il rfl ?_
        refine w_aln rfl ?_
        refine w_gi hL.gm rfl (by decide) rfl (hC.2.2.2.1.2.1) ?_
        refine w_cmne (fun c10 => ?_) (fun c10 => ?_)
        · skip
          refine w_ii rfl ⟨by show (-2147483648 : Int) ≤ i + 1; omega, by show i + 1 < (2147483648 : Int); omega⟩ ?_
          show wz _ _ _ _ [some (.inr (.inr (some m))), some (.inl x), some (.inl mi), some (.inl (ye_wy H g L)), some (.inl c), some (.inl (i + 1)), y6] _ _ _ _ _
          refine w_goto ?_
          refine ih (i + 1) _ _ _ (by omega) (by omega) ?_ h
          have kL : ye_cb H A B mi.toNat L (i + 1) = ye_cb H A B mi.toNat L i := by
            unfold ye_cb
            by_cases q : 0 ≤ L ∧ L < i
            · rw [if_pos q, if_pos (by omega)]
            · rw [if_neg q, if_neg (by omega)]
          have kO : ye_cb H A B mi.toNat O (i + 1) = ye_cb H A B mi.toNat O i := by
            unfold ye_cb
            by_cases q : 0 ≤ O ∧ O < i
            · rw [if_pos q, if_pos (by omega)]
            · rw [if_neg q, if_neg (by omega)]
          omega
        · skip
          refine w_aln rfl ?_
          refine w_il rfl ?_
          refine w_iln rfl ?_
          refine w_cv (st := []) rfl hL.gm rfl (Nat.le_of_ble_eq_true rfl) (fun kk h => h) ⟨Nat.le_of_ble_eq_true rfl, ?_⟩
          show wz (d + 2) mt_X12_wasLet.2.2.2.2.1 _ mt_X12_wasLet.2.2.2.2.1 [some (.inr (.inr (some m))), some (.inl i), some (.inl mi)] [] _ _ _ _
          refine w_iln rfl ?_
          refine w_ifle (fun c11 => ?_) (fun c11 => ?_)
          · skip
            refine w_ic ?_
            refine w_iret (fun _ => Or.inl rfl) ?_
            refine w_ifne (fun c12 => ?_) (fun c12 => ?_)
            · exfalso; omega
            · skip
              refine w_il rfl ?_
              refine w_aln rfl ?_
              refine w_il rfl ?_
              refine w_bp ?_
              refine w_cv (st := [.inl c]) rfl hL.gm rfl (Nat.le_of_ble_eq_true rfl) (fun kk h => h) ⟨Nat.le_of_ble_eq_true rfl, ?_⟩
              show wz (d + 2) mt_X12_toldOf.2.2.2.2.1 _ mt_X12_toldOf.2.2.2.2.1 [some (.inr (.inr (some m))), some (.inl i), some (.inl 6)] [] _ _ _ _
              refine w_aln rfl ?_
              refine w_gr hL.gm rfl (by decide) rfl (hC.vr hL.m6) ?_
              refine w_ic ?_
              refine w_bp ?_
              refine w_iln rfl ?_
              refine w_mul ⟨by show (-2147483648 : Int) ≤ 9 * i; omega, by show 9 * i < (2147483648 : Int); omega⟩ ?_
              refine w_add ⟨by show (-2147483648 : Int) ≤ 4 + (9 * i); omega, by show 4 + (9 * i) < (2147483648 : Int); omega⟩ ?_
              refine w_iln rfl ?_
              refine w_add ⟨by show (-2147483648 : Int) ≤ (4 + (9 * i)) + 6; omega, by show (4 + (9 * i)) + 6 < (2147483648 : Int); omega⟩ ?_
              refine w_iald (v := (H (10 + 9 * i.toNat))) hL.gs rfl (by show (0 : Int) ≤ (4 + (9 * i)) + 6; omega) (by show (4 + (9 * i)) + 6 < ((537 : Nat) : Int); omega) (hC.vn hL (by show ((4 + (9 * i)) + 6).toNat = 10 + 9 * i.toNat; omega) (by show 10 + 9 * i.toNat < 221; omega)) ?_
              refine w_iret (fun q => by cases q) ?_
              refine w_add ⟨by show (-2147483648 : Int) ≤ c + (H (10 + 9 * i.toNat)); omega, by show c + (H (10 + 9 * i.toNat)) < (2147483648 : Int); omega⟩ ?_
              refine w_is ?_
              show wz _ _ _ _ [some (.inr (.inr (some m))), some (.inl x), some (.inl mi), some (.inl (ye_wy H g L)), some (.inl (c + (H (10 + 9 * i.toNat)))), some (.inl i), y6] _ _ _ _ _
              refine w_ii rfl ⟨by show (-2147483648 : Int) ≤ i + 1; omega, by show i + 1 < (2147483648 : Int); omega⟩ ?_
              show wz _ _ _ _ [some (.inr (.inr (some m))), some (.inl x), some (.inl mi), some (.inl (ye_wy H g L)), some (.inl (c + (H (10 + 9 * i.toNat)))), some (.inl (i + 1)), y6] _ _ _ _ _
              refine w_goto ?_
              refine ih (i + 1) _ _ _ (by omega) (by omega) ?_ h
              have kL : ye_cb H A B mi.toNat L (i + 1) = ye_cb H A B mi.toNat L i := by
                unfold ye_cb
                by_cases q : 0 ≤ L ∧ L < i
                · rw [if_pos q, if_pos (by omega)]
                · rw [if_neg q, if_neg (by omega)]
              have kO : ye_cb H A B mi.toNat O (i + 1) = (H (10 + 9 * i.toNat)) ∧ ye_cb H A B mi.toNat O i = 0 := by
                unfold ye_cb ye_br
                rw [if_pos (by omega), if_neg (by omega : ¬ (0 ≤ O ∧ O < i)), show mi.toNat - 1 = (mi - 1).toNat by omega, show O.toNat = i.toNat by omega]
                rw [if_neg (by omega)]
                first | (rw [if_pos (by omega)]; exact ⟨rfl, rfl⟩) | (rw [if_neg (by omega)]; exact ⟨rfl, rfl⟩)
              omega
          · skip
            refine w_aln rfl ?_
            refine w_gr hL.gm rfl (by decide) rfl (hC.vr hL.m6) ?_
            refine w_sp ?_
            refine w_ic ?_
            refine w_iln rfl ?_
            refine w_mul ⟨by show (-2147483648 : Int) ≤ 3 * mi; omega, by show 3 * mi < (2147483648 : Int); omega⟩ ?_
            refine w_add ⟨by show (-2147483648 : Int) ≤ 320 + (3 * mi); omega, by show 320 + (3 * mi) < (2147483648 : Int); omega⟩ ?_
            refine w_ic ?_
            refine w_sub ⟨by show (-2147483648 : Int) ≤ (320 + (3 * mi)) - 3; omega, by show (320 + (3 * mi)) - 3 < (2147483648 : Int); omega⟩ ?_
            refine w_iald (v := (A (mi - 1).toNat)) hL.gs rfl (by show (0 : Int) ≤ (320 + (3 * mi)) - 3; omega) (by show (320 + (3 * mi)) - 3 < ((537 : Nat) : Int); omega) (hC.vA (by show ((320 + (3 * mi)) - 3).toNat = 320 + 3 * (mi - 1).toNat; omega) (by show (mi - 1).toNat < 12; omega)) ?_
            refine w_iln rfl ?_
            refine w_cmeq (fun c13 => ?_) (fun c13 => ?_)
            · skip
              refine w_ic ?_
              refine w_goto ?_
              refine w_iret (fun _ => Or.inr rfl) ?_
              refine w_ifne (fun c14 => ?_) (fun c14 => ?_)
              · skip
                refine w_ii rfl ⟨by show (-2147483648 : Int) ≤ i + 1; omega, by show i + 1 < (2147483648 : Int); omega⟩ ?_
                show wz _ _ _ _ [some (.inr (.inr (some m))), some (.inl x), some (.inl mi), some (.inl (ye_wy H g L)), some (.inl c), some (.inl (i + 1)), y6] _ _ _ _ _
                refine w_goto ?_
                refine ih (i + 1) _ _ _ (by omega) (by omega) ?_ h
                have kL : ye_cb H A B mi.toNat L (i + 1) = ye_cb H A B mi.toNat L i := by
                  unfold ye_cb
                  by_cases q : 0 ≤ L ∧ L < i
                  · rw [if_pos q, if_pos (by omega)]
                  · rw [if_neg q, if_neg (by omega)]
                have kO : ye_cb H A B mi.toNat O (i + 1) = 0 ∧ ye_cb H A B mi.toNat O i = 0 := by
                  unfold ye_cb ye_br
                  rw [if_pos (by omega), if_neg (by omega : ¬ (0 ≤ O ∧ O < i)), show mi.toNat - 1 = (mi - 1).toNat by omega, show O.toNat = i.toNat by omega]
                  rw [if_neg (by omega)]
                  first | (rw [if_pos (by omega)]; exact ⟨rfl, rfl⟩) | (rw [if_neg (by omega)]; exact ⟨rfl, rfl⟩)
                omega
              · exfalso; omega
            · skip
              refine w_aln rfl ?_
              refine w_gr hL.gm rfl (by decide) rfl (hC.vr hL.m6) ?_
              refine w_sp ?_
              refine w_ic ?_
              refine w_iln rfl ?_
              refine w_mul ⟨by show (-2147483648 : Int) ≤ 3 * mi; omega, by show 3 * mi < (2147483648 : Int); omega⟩ ?_
              refine w_add ⟨by show (-2147483648 : Int) ≤ 320 + (3 * mi); omega, by show 320 + (3 * mi) < (2147483648 : Int); omega⟩ ?_
              refine w_ic ?_
              refine w_sub ⟨by show (-2147483648 : Int) ≤ (320 + (3 * mi)) - 2; omega, by show (320 + (3 * mi)) - 2 < (2147483648 : Int); omega⟩ ?_
              refine w_iald (v := (B (mi - 1).toNat)) hL.gs rfl (by show (0 : Int) ≤ (320 + (3 * mi)) - 2; omega) (by show (320 + (3 * mi)) - 2 < ((537 : Nat) : Int); omega) (hC.vB (by show ((320 + (3 * mi)) - 2).toNat = 321 + 3 * (mi - 1).toNat; omega) (by show (mi - 1).toNat < 12; omega)) ?_
              refine w_iln rfl ?_
              refine w_cmne (fun c15 => ?_) (fun c15 => ?_)
              · skip
                refine w_ic ?_
                refine w_iret (fun _ => Or.inl rfl) ?_
                refine w_ifne (fun c16 => ?_) (fun c16 => ?_)
                · exfalso; omega
                · skip
                  refine w_il rfl ?_
                  refine w_aln rfl ?_
                  refine w_il rfl ?_
                  refine w_bp ?_
                  refine w_cv (st := [.inl c]) rfl hL.gm rfl (Nat.le_of_ble_eq_true rfl) (fun kk h => h) ⟨Nat.le_of_ble_eq_true rfl, ?_⟩
                  show wz (d + 2) mt_X12_toldOf.2.2.2.2.1 _ mt_X12_toldOf.2.2.2.2.1 [some (.inr (.inr (some m))), some (.inl i), some (.inl 6)] [] _ _ _ _
                  refine w_aln rfl ?_
                  refine w_gr hL.gm rfl (by decide) rfl (hC.vr hL.m6) ?_
                  refine w_ic ?_
                  refine w_bp ?_
                  refine w_iln rfl ?_
                  refine w_mul ⟨by show (-2147483648 : Int) ≤ 9 * i; omega, by show 9 * i < (2147483648 : Int); omega⟩ ?_
                  refine w_add ⟨by show (-2147483648 : Int) ≤ 4 + (9 * i); omega, by show 4 + (9 * i) < (2147483648 : Int); omega⟩ ?_
                  refine w_iln rfl ?_
                  refine w_add ⟨by show (-2147483648 : Int) ≤ (4 + (9 * i)) + 6; omega, by show (4 + (9 * i)) + 6 < (2147483648 : Int); omega⟩ ?_
                  refine w_iald (v := (H (10 + 9 * i.toNat))) hL.gs rfl (by show (0 : Int) ≤ (4 + (9 * i)) + 6; omega) (by show (4 + (9 * i)) + 6 < ((537 : Nat) : Int); omega) (hC.vn hL (by show ((4 + (9 * i)) + 6).toNat = 10 + 9 * i.toNat; omega) (by show 10 + 9 * i.toNat < 221; omega)) ?_
                  refine w_iret (fun q => by cases q) ?_
                  refine w_add ⟨by show (-2147483648 : Int) ≤ c + (H (10 + 9 * i.toNat)); omega, by show c + (H (10 + 9 * i.toNat)) < (2147483648 : Int); omega⟩ ?_
                  refine w_is ?_
                  show wz _ _ _ _ [some (.inr (.inr (some m))), some (.inl x), some (.inl mi), some (.inl (ye_wy H g L)), some (.inl (c + (H (10 + 9 * i.toNat)))), some (.inl i), y6] _ _ _ _ _
                  refine w_ii rfl ⟨by show (-2147483648 : Int) ≤ i + 1; omega, by show i + 1 < (2147483648 : Int); omega⟩ ?_
                  show wz _ _ _ _ [some (.inr (.inr (some m))), some (.inl x), some (.inl mi), some (.inl (ye_wy H g L)), some (.inl (c + (H (10 + 9 * i.toNat)))), some (.inl (i + 1)), y6] _ _ _ _ _
                  refine w_goto ?_
                  refine ih (i + 1) _ _ _ (by omega) (by omega) ?_ h
                  have kL : ye_cb H A B mi.toNat L (i + 1) = ye_cb H A B mi.toNat L i := by
                    unfold ye_cb
                    by_cases q : 0 ≤ L ∧ L < i
                    · rw [if_pos q, if_pos (by omega)]
                    · rw [if_neg q, if_neg (by omega)]
                  have kO : ye_cb H A B mi.toNat O (i + 1) = (H (10 + 9 * i.toNat)) ∧ ye_cb H A B mi.toNat O i = 0 := by
                    unfold ye_cb ye_br
                    rw [if_pos (by omega), if_neg (by omega : ¬ (0 ≤ O ∧ O < i)), show mi.toNat - 1 = (mi - 1).toNat by omega, show O.toNat = i.toNat by omega]
                    rw [if_neg (by omega)]
                    first | (rw [if_pos (by omega)]; exact ⟨rfl, rfl⟩) | (rw [if_neg (by omega)]; exact ⟨rfl, rfl⟩)
                  omega
              · skip
                refine w_ic ?_
                refine w_goto ?_
                refine w_iret (fun _ => Or.inr rfl) ?_
                refine w_ifne (fun c17 => ?_) (fun c17 => ?_)
                · skip
                  refine w_ii rfl ⟨by show (-2147483648 : Int) ≤ i + 1; omega, by show i + 1 < (2147483648 : Int); omega⟩ ?_
                  show wz _ _ _ _ [some (.inr (.inr (some m))), some (.inl x), some (.inl mi), some (.inl (ye_wy H g L)), some (.inl c), some (.inl (i + 1)), y6] _ _ _ _ _
                  refine w_goto ?_
                  refine ih (i + 1) _ _ _ (by omega) (by omega) ?_ h
                  have kL : ye_cb H A B mi.toNat L (i + 1) = ye_cb H A B mi.toNat L i := by
                    unfold ye_cb
                    by_cases q : 0 ≤ L ∧ L < i
                    · rw [if_pos q, if_pos (by omega)]
                    · rw [if_neg q, if_neg (by omega)]
                  have kO : ye_cb H A B mi.toNat O (i + 1) = 0 ∧ ye_cb H A B mi.toNat O i = 0 := by
                    unfold ye_cb ye_br
                    rw [if_pos (by omega), if_neg (by omega : ¬ (0 ≤ O ∧ O < i)), show mi.toNat - 1 = (mi - 1).toNat by omega, show O.toNat = i.toNat by omega]
                    rw [if_neg (by omega)]
                    first | (rw [if_pos (by omega)]; exact ⟨rfl, rfl⟩) | (rw [if_neg (by omega)]; exact ⟨rfl, rfl⟩)
                  omega
                · exfalso; omega
theorem r_moR3 {G : mj_G} {M M0 : mj_M} {s m : Nat} {H : Nat → Int} {g A B C : Nat → Int} {R : Nat → Nat → Int} {L O P : Int} {Q : mj_P} {d : Nat} {y5 y6 : Option mj_V} {x mi : Int} (hL : yq_L G M0 s m H) (hC : yq_S s m M0 g A B C R L O P M) {cb sb : Nat} (hT : ∀ j, 4 ≤ j → j < 76 → 0 ≤ H j ∧ H j ≤ 999) (hm : g 222 = mi) (m0 : 0 ≤ mi ∧ mi ≤ 11) (hx : 0 ≤ x ∧ x ≤ 99) (hw : 0 ≤ H (76 + mi.toNat) ∧ H (76 + mi.toNat) ≤ 999) (hl : L = 8 ∨ (0 ≤ L ∧ L ≤ 7)) (ho : O = -1 ∨ (0 ≤ O ∧ O ≤ 7)) (hlo : L = 8 → O = -1) (hn : L ≠ O) (hp : 0 ≤ P ∧ P ≤ 999) (b224 : -1000000 ≤ g 224 ∧ g 224 ≤ 1000000) (b226 : -1000000 ≤ g 226 ∧ g 226 ≤ 1000000) (b228 : -1000000 ≤ g 228 ∧ g 228 ≤ 1000000) (b229 : -1000000 ≤ g 229 ∧ g 229 ≤ 1000000) (b230 : -1000000 ≤ g 230 ∧ g 230 ≤ 1000000) (b231 : -1000000 ≤ g 231 ∧ g 231 ≤ 1000000) (b225 : 0 ≤ g 225 ∧ g 225 ≤ 999) (hy : 0 ≤ ye_wy H g L ∧ ye_wy H g L ≤ 8) (hc : 0 ≤ ye_co H g A B mi.toNat L O ∧ ye_co H g A B mi.toNat L O ≤ 5000) (hR0 : ∀ t, t < 8 → (0 ≤ R t 0 ∧ R t 0 ≤ 999) ∧ (-100000 ≤ R t 6 ∧ R t 6 ≤ 100000)) (h : ∀ M, (yq_S s m M0 (ye_g2 H R (rv_up (ye_g1 H g A B mi.toNat L O P) 226 ((ye_g1 H g A B mi.toNat L O P) 226 + (H (76 + mi.toNat) + x))) L O (H (76 + mi.toNat) + x)) (rv_up A mi.toNat L) (rv_up B mi.toNat O) (rv_up C mi.toNat P) (ye_R2 H R L O (H (76 + mi.toNat) + x)) L O P M) → wz (d + 3) mt_X12_month.2.2.2.2.1 Q (mt_X12_month.2.2.2.2.1.drop 199) [some (.inr (.inr (some m))), some (.inl x), some (.inl mi), some (.inl (ye_wy H g L)), some (.inl (ye_co H g A B mi.toNat L O)), some (.inl (H (76 + mi.toNat) + x)), some (.inl 0)] [] G M cb sb) : wz (d + 3) mt_X12_month.2.2.2.2.1 Q (mt_X12_month.2.2.2.2.1.drop 58) [some (.inr (.inr (some m))), some (.inl x), some (.inl mi), some (.inl (ye_wy H g L)), some (.inl (ye_co H g A B mi.toNat L O)), y5, y6] [] G M cb sb := by
  have hin : ∀ (R2 : Nat → Nat → Int) (t z2 : Int), 0 ≤ t → t ≤ 7 → 0 ≤ z2 → z2 ≤ 2000 → 0 ≤ R2 t.toNat 0 → R2 t.toNat 0 ≤ 999 → (0 ≤ ye_se H t z2 ∧ ye_se H t z2 ≤ z2) ∧ -999 ≤ ye_in H R2 t z2 ∧ ye_in H R2 t z2 ≤ 2000 := fun R2 t z2 t1 t2 t3 t4 t5 t6 => by
    have t0 := hT (5 + 9 * t.toNat) (by omega) (by omega)
    have h2 := ye_se_b hT t1 t2 t3
    refine ⟨h2, ?_⟩
    unfold ye_in; split <;> omega
  refine w_aln rfl ?_
  refine w_gr hL.gm rfl (by decide) rfl (hC.vr hL.m6) ?_
  refine w_sp ?_
  refine w_dup2 ?_
  refine w_iald (v := (g 224)) hL.gs rfl (by show (0 : Int) ≤ 224; omega) (by show 224 < ((537 : Nat) : Int); omega) (hC.vg (k := 224) (by decide) (by decide)) ?_
  refine w_aln rfl ?_
  refine w_gi hL.gm rfl (by decide) rfl (hC.2.2.2.1.2.2) ?_
  refine w_il rfl ?_
  refine w_sub ⟨by show (-2147483648 : Int) ≤ P - (ye_co H g A B mi.toNat L O); omega, by show P - (ye_co H g A B mi.toNat L O) < (2147483648 : Int); omega⟩ ?_
  refine w_add ⟨by show (-2147483648 : Int) ≤ (g 224) + (P - (ye_co H g A B mi.toNat L O)); omega, by show (g 224) + (P - (ye_co H g A B mi.toNat L O)) < (2147483648 : Int); omega⟩ ?_
  refine w_iast hL.gs rfl (by decide) (by show (0 : Int) ≤ 224; omega) (by show 224 < ((537 : Nat) : Int); omega) ?_
  have hC1 := hC.pg (k := 224) (v := (g 224) + (P - (ye_co H g A B mi.toNat L O))) hL (by decide) (by decide) (by show (224 : Int).toNat = 224; omega)
  refine w_aln rfl ?_
  refine w_gr hL.gm rfl (by decide) rfl (hC1.vr hL.m6) ?_
  refine w_sp ?_
  refine w_dup2 ?_
  refine w_iald (v := (g 231)) hL.gs rfl (by show (0 : Int) ≤ 231; omega) (by show 231 < ((537 : Nat) : Int); omega) ((hC1.vg (k := 231) (by decide) (by decide)).trans ((rv_up_n (by decide)))) ?_
  refine w_il rfl ?_
  refine w_add ⟨by show (-2147483648 : Int) ≤ (g 231) + (ye_co H g A B mi.toNat L O); omega, by show (g 231) + (ye_co H g A B mi.toNat L O) < (2147483648 : Int); omega⟩ ?_
  refine w_iast hL.gs rfl (by decide) (by show (0 : Int) ≤ 231; omega) (by show 231 < ((537 : Nat) : Int); omega) ?_
  have hC2 := hC1.pg (k := 231) (v := (g 231) + (ye_co H g A B mi.toNat L O)) hL (by decide) (by decide) (by show (231 : Int).toNat = 231; omega)
  refine w_aln rfl ?_
  refine w_gr hL.gm rfl (by decide) rfl (hC2.vr hL.m6) ?_
  refine w_sp ?_
  refine w_aln rfl ?_
  refine w_gr hL.gm rfl (by decide) rfl (hC2.vr hL.m6) ?_
  refine w_sp ?_
  refine w_iald (v := (g 225)) hL.gs rfl (by show (0 : Int) ≤ 225; omega) (by show 225 < ((537 : Nat) : Int); omega) ((hC2.vg (k := 225) (by decide) (by decide)).trans ((rv_up_n (by decide)).trans ((rv_up_n (by decide))))) ?_
  refine w_iln rfl ?_
  refine w_cmle (fun c3 => ?_) (fun c3 => ?_)
  · skip
    refine w_ic ?_
    refine w_iast hL.gs rfl (by decide) (by show (0 : Int) ≤ 225; omega) (by show 225 < ((537 : Nat) : Int); omega) ?_
    have hC4 := hC2.pg (k := 225) (v := 0) hL (by decide) (by decide) (by show (225 : Int).toNat = 225; omega)
    refine w_aln rfl ?_
    refine w_gr hL.gm rfl (by decide) rfl (hC4.vr hL.m6) ?_
    refine w_sp ?_
    refine w_aln rfl ?_
    refine w_gi hL.gm rfl (by decide) rfl (hC4.2.2.2.1.1) ?_
    refine w_iast hL.gs rfl (by decide) (by show (0 : Int) ≤ 223; omega) (by show 223 < ((537 : Nat) : Int); omega) ?_
    have hC5 := hC4.pg (k := 223) (v := L) hL (by decide) (by decide) (by show (223 : Int).toNat = 223; omega)
    refine w_aln rfl ?_
    refine w_gr hL.gm rfl (by decide) rfl (hC5.vr hL.m6) ?_
    refine w_bp ?_
    refine w_iln rfl ?_
    refine w_add ⟨by show (-2147483648 : Int) ≤ 76 + mi; omega, by show 76 + mi < (2147483648 : Int); omega⟩ ?_
    refine w_iald (v := (H (76 + mi.toNat))) hL.gs rfl (by show (0 : Int) ≤ 76 + mi; omega) (by show 76 + mi < ((537 : Nat) : Int); omega) (hC5.vn hL (by show (76 + mi).toNat = 76 + mi.toNat; omega) (by show 76 + mi.toNat < 221; omega)) ?_
    refine w_iln rfl ?_
    refine w_add ⟨by show (-2147483648 : Int) ≤ (H (76 + mi.toNat)) + x; omega, by show (H (76 + mi.toNat)) + x < (2147483648 : Int); omega⟩ ?_
    refine w_is ?_
    show wz _ _ _ _ [some (.inr (.inr (some m))), some (.inl x), some (.inl mi), some (.inl (ye_wy H g L)), some (.inl (ye_co H g A B mi.toNat L O)), some (.inl ((H (76 + mi.toNat)) + x)), y6] _ _ _ _ _
    refine w_aln rfl ?_
    refine w_gr hL.gm rfl (by decide) rfl (hC5.vr hL.m6) ?_
    refine w_sp ?_
    refine w_dup2 ?_
    refine w_iald (v := (g 226)) hL.gs rfl (by show (0 : Int) ≤ 226; omega) (by show 226 < ((537 : Nat) : Int); omega) ((hC5.vg (k := 226) (by decide) (by decide)).trans ((rv_up_n (by decide)).trans ((rv_up_n (by decide)).trans ((rv_up_n (by decide)).trans ((rv_up_n (by decide))))))) ?_
    refine w_il rfl ?_
    refine w_add ⟨by show (-2147483648 : Int) ≤ (g 226) + ((H (76 + mi.toNat)) + x); omega, by show (g 226) + ((H (76 + mi.toNat)) + x) < (2147483648 : Int); omega⟩ ?_
    refine w_iast hL.gs rfl (by decide) (by show (0 : Int) ≤ 226; omega) (by show 226 < ((537 : Nat) : Int); omega) ?_
    have hC6 := hC5.pg (k := 226) (v := (g 226) + ((H (76 + mi.toNat)) + x)) hL (by decide) (by decide) (by show (226 : Int).toNat = 226; omega)
    refine w_aln rfl ?_
    refine w_gi hL.gm rfl (by decide) rfl (hC6.2.2.2.1.1) ?_
    refine w_bp ?_
    refine w_cmne (fun c7 => ?_) (fun c7 => ?_)
    · skip
      refine w_aln rfl ?_
      refine w_aln rfl ?_
      refine w_gi hL.gm rfl (by decide) rfl (hC6.2.2.2.1.1) ?_
      refine w_aln rfl ?_
      refine w_gi hL.gm rfl (by decide) rfl (hC6.2.2.2.1.2.1) ?_
      refine w_ifge (fun c8 => ?_) (fun c8 => ?_)
      · skip
        refine w_il rfl ?_
        refine w_ic ?_
        refine w_add ⟨by show (-2147483648 : Int) ≤ ((H (76 + mi.toNat)) + x) + 1; omega, by show ((H (76 + mi.toNat)) + x) + 1 < (2147483648 : Int); omega⟩ ?_
        refine w_ic ?_
        refine w_div (by decide) ?_
        intro z9 hz9 ez9
        obtain rfl : z9 = ((((H (76 + mi.toNat)) + x) + 1) / 2) := ye_half (by omega) (by omega) ez9
        refine w_cv (st := []) rfl hL.gm rfl (Nat.le_of_ble_eq_true rfl) (fun kk h => h) (r_X12_comes (d := d + 1) hL hC6 (by show 0 ≤ L ∧ L ≤ 7; omega) (by show 0 ≤ ((((H (76 + mi.toNat)) + x) + 1) / 2) ∧ ((((H (76 + mi.toNat)) + x) + 1) / 2) ≤ 2000; omega) hT (((hR0 _ (by show L.toNat < 8; omega)).1).imp (fun q => by omega) (fun q => by omega)) (((hR0 _ (by show L.toNat < 8; omega)).2).imp (fun q => by omega) (fun q => by omega)) (by rw [show (rv_up (rv_up (rv_up (rv_up (rv_up g 224 ((g 224) + (P - (ye_co H g A B mi.toNat L O)))) 231 ((g 231) + (ye_co H g A B mi.toNat L O))) 225 0) 223 L) 226 ((g 226) + ((H (76 + mi.toNat)) + x))) 228 = g 228 from (rv_up_n (by decide)).trans ((rv_up_n (by decide)).trans ((rv_up_n (by decide)).trans ((rv_up_n (by decide)).trans ((rv_up_n (by decide))))))]; omega) (by rw [show (rv_up (rv_up (rv_up (rv_up (rv_up g 224 ((g 224) + (P - (ye_co H g A B mi.toNat L O)))) 231 ((g 231) + (ye_co H g A B mi.toNat L O))) 225 0) 223 L) 226 ((g 226) + ((H (76 + mi.toNat)) + x))) 229 = g 229 from (rv_up_n (by decide)).trans ((rv_up_n (by decide)).trans ((rv_up_n (by decide)).trans ((rv_up_n (by decide)).trans ((rv_up_n (by decide))))))]; omega) (fun M10 hC11 => ?_))
        have g312 : (ye_c1 H R (rv_up (rv_up (rv_up (rv_up (rv_up g 224 ((g 224) + (P - (ye_co H g A B mi.toNat L O)))) 231 ((g 231) + (ye_co H g A B mi.toNat L O))) 225 0) 223 L) 226 ((g 226) + ((H (76 + mi.toNat)) + x))) L ((((H (76 + mi.toNat)) + x) + 1) / 2)) 230 = g 230 := rfl
        refine w_aln rfl ?_
        refine w_gi hL.gm rfl (by decide) rfl (hC11.2.2.2.1.2.1) ?_
        refine w_iflt (fun c13 => ?_) (fun c13 => ?_)
        · exfalso; omega
        · skip
          refine w_aln rfl ?_
          refine w_aln rfl ?_
          refine w_gi hL.gm rfl (by decide) rfl (hC11.2.2.2.1.2.1) ?_
          refine w_il rfl ?_
          refine w_ic ?_
          refine w_div (by decide) ?_
          intro z14 hz14 ez14
          obtain rfl : z14 = (((H (76 + mi.toNat)) + x) / 2) := ye_half (by omega) (by omega) ez14
          have hi1 := hin R L ((((H (76 + mi.toNat)) + x) + 1) / 2) (by omega) (by omega) (by omega) (by omega) (hR0 _ (by omega)).1.1 (hR0 _ (by omega)).1.2
          refine w_cv (st := []) rfl hL.gm rfl (Nat.le_of_ble_eq_true rfl) (fun kk h => h) (r_X12_comes (d := d + 1) hL hC11 (by show 0 ≤ O ∧ O ≤ 7; omega) (by show 0 ≤ (((H (76 + mi.toNat)) + x) / 2) ∧ (((H (76 + mi.toNat)) + x) / 2) ≤ 2000; omega) hT (by rw [show (ye_cR H R L ((((H (76 + mi.toNat)) + x) + 1) / 2)) = ye_ru R L.toNat _ from rfl, ye_ru_n (show O.toNat ≠ L.toNat by omega)]; have q := hR0 O.toNat (by omega); omega) (by rw [show (ye_cR H R L ((((H (76 + mi.toNat)) + x) + 1) / 2)) = ye_ru R L.toNat _ from rfl, ye_ru_n (show O.toNat ≠ L.toNat by omega)]; have q := hR0 O.toNat (by omega); omega) (by rw [show (ye_c1 H R (rv_up (rv_up (rv_up (rv_up (rv_up g 224 ((g 224) + (P - (ye_co H g A B mi.toNat L O)))) 231 ((g 231) + (ye_co H g A B mi.toNat L O))) 225 0) 223 L) 226 ((g 226) + ((H (76 + mi.toNat)) + x))) L ((((H (76 + mi.toNat)) + x) + 1) / 2)) 228 = g 228 + ye_se H L ((((H (76 + mi.toNat)) + x) + 1) / 2) from rfl]; omega) (by rw [show (ye_c1 H R (rv_up (rv_up (rv_up (rv_up (rv_up g 224 ((g 224) + (P - (ye_co H g A B mi.toNat L O)))) 231 ((g 231) + (ye_co H g A B mi.toNat L O))) 225 0) 223 L) 226 ((g 226) + ((H (76 + mi.toNat)) + x))) L ((((H (76 + mi.toNat)) + x) + 1) / 2)) 229 = g 229 + (((((H (76 + mi.toNat)) + x) + 1) / 2) - ye_se H L ((((H (76 + mi.toNat)) + x) + 1) / 2) - ye_in H R L ((((H (76 + mi.toNat)) + x) + 1) / 2)) from rfl]; omega) (fun M15 hC16 => ?_))
          have g317 : (ye_c1 H (ye_cR H R L ((((H (76 + mi.toNat)) + x) + 1) / 2)) (ye_c1 H R (rv_up (rv_up (rv_up (rv_up (rv_up g 224 ((g 224) + (P - (ye_co H g A B mi.toNat L O)))) 231 ((g 231) + (ye_co H g A B mi.toNat L O))) 225 0) 223 L) 226 ((g 226) + ((H (76 + mi.toNat)) + x))) L ((((H (76 + mi.toNat)) + x) + 1) / 2)) O (((H (76 + mi.toNat)) + x) / 2)) 230 = g 230 := rfl
          refine w_aln rfl ?_
          refine w_gr hL.gm rfl (by decide) rfl (hC16.vr hL.m6) ?_
          refine w_sp ?_
          refine w_dup2 ?_
          refine w_iald (v := ((ye_c1 H (ye_cR H R L ((((H (76 + mi.toNat)) + x) + 1) / 2)) (ye_c1 H R (rv_up (rv_up (rv_up (rv_up (rv_up g 224 ((g 224) + (P - (ye_co H g A B mi.toNat L O)))) 231 ((g 231) + (ye_co H g A B mi.toNat L O))) 225 0) 223 L) 226 ((g 226) + ((H (76 + mi.toNat)) + x))) L ((((H (76 + mi.toNat)) + x) + 1) / 2)) O (((H (76 + mi.toNat)) + x) / 2)) 230)) hL.gs rfl (by show (0 : Int) ≤ 230; omega) (by show 230 < ((537 : Nat) : Int); omega) (hC16.vg (k := 230) (by decide) (by decide)) ?_
          refine w_ic ?_
          refine w_add ⟨by show (-2147483648 : Int) ≤ ((ye_c1 H (ye_cR H R L ((((H (76 + mi.toNat)) + x) + 1) / 2)) (ye_c1 H R (rv_up (rv_up (rv_up (rv_up (rv_up g 224 ((g 224) + (P - (ye_co H g A B mi.toNat L O)))) 231 ((g 231) + (ye_co H g A B mi.toNat L O))) 225 0) 223 L) 226 ((g 226) + ((H (76 + mi.toNat)) + x))) L ((((H (76 + mi.toNat)) + x) + 1) / 2)) O (((H (76 + mi.toNat)) + x) / 2)) 230) + 1; omega, by show ((ye_c1 H (ye_cR H R L ((((H (76 + mi.toNat)) + x) + 1) / 2)) (ye_c1 H R (rv_up (rv_up (rv_up (rv_up (rv_up g 224 ((g 224) + (P - (ye_co H g A B mi.toNat L O)))) 231 ((g 231) + (ye_co H g A B mi.toNat L O))) 225 0) 223 L) 226 ((g 226) + ((H (76 + mi.toNat)) + x))) L ((((H (76 + mi.toNat)) + x) + 1) / 2)) O (((H (76 + mi.toNat)) + x) / 2)) 230) + 1 < (2147483648 : Int); omega⟩ ?_
          refine w_iast hL.gs rfl (by decide) (by show (0 : Int) ≤ 230; omega) (by show 230 < ((537 : Nat) : Int); omega) ?_
          have hC18 := hC16.pg (k := 230) (v := ((ye_c1 H (ye_cR H R L ((((H (76 + mi.toNat)) + x) + 1) / 2)) (ye_c1 H R (rv_up (rv_up (rv_up (rv_up (rv_up g 224 ((g 224) + (P - (ye_co H g A B mi.toNat L O)))) 231 ((g 231) + (ye_co H g A B mi.toNat L O))) 225 0) 223 L) 226 ((g 226) + ((H (76 + mi.toNat)) + x))) L ((((H (76 + mi.toNat)) + x) + 1) / 2)) O (((H (76 + mi.toNat)) + x) / 2)) 230) + 1) hL (by decide) (by decide) (by show (230 : Int).toNat = 230; omega)
          refine w_aln rfl ?_
          refine w_gr hL.gm rfl (by decide) rfl (hC18.vr hL.m6) ?_
          refine w_sp ?_
          refine w_ic ?_
          refine w_iln rfl ?_
          refine w_mul ⟨by show (-2147483648 : Int) ≤ 3 * mi; omega, by show 3 * mi < (2147483648 : Int); omega⟩ ?_
          refine w_add ⟨by show (-2147483648 : Int) ≤ 320 + (3 * mi); omega, by show 320 + (3 * mi) < (2147483648 : Int); omega⟩ ?_
          refine w_aln rfl ?_
          refine w_gi hL.gm rfl (by decide) rfl (hC18.2.2.2.1.1) ?_
          refine w_iast hL.gs rfl (by decide) (by show (0 : Int) ≤ 320 + (3 * mi); omega) (by show 320 + (3 * mi) < ((537 : Nat) : Int); omega) ?_
          have hC19 := hC18.pA (k := mi.toNat) (v := L) hL (by show (320 + (3 * mi)).toNat = 320 + 3 * mi.toNat; omega) (by show mi.toNat < 12; omega)
          refine w_aln rfl ?_
          refine w_gr hL.gm rfl (by decide) rfl (hC19.vr hL.m6) ?_
          refine w_sp ?_
          refine w_ic ?_
          refine w_iln rfl ?_
          refine w_mul ⟨by show (-2147483648 : Int) ≤ 3 * mi; omega, by show 3 * mi < (2147483648 : Int); omega⟩ ?_
          refine w_add ⟨by show (-2147483648 : Int) ≤ 320 + (3 * mi); omega, by show 320 + (3 * mi) < (2147483648 : Int); omega⟩ ?_
          refine w_ic ?_
          refine w_add ⟨by show (-2147483648 : Int) ≤ (320 + (3 * mi)) + 1; omega, by show (320 + (3 * mi)) + 1 < (2147483648 : Int); omega⟩ ?_
          refine w_aln rfl ?_
          refine w_gi hL.gm rfl (by decide) rfl (hC19.2.2.2.1.2.1) ?_
          refine w_iast hL.gs rfl (by decide) (by show (0 : Int) ≤ (320 + (3 * mi)) + 1; omega) (by show (320 + (3 * mi)) + 1 < ((537 : Nat) : Int); omega) ?_
          have hC20 := hC19.pB (k := mi.toNat) (v := O) hL (by show ((320 + (3 * mi)) + 1).toNat = 321 + 3 * mi.toNat; omega) (by show mi.toNat < 12; omega)
          refine w_aln rfl ?_
          refine w_gr hL.gm rfl (by decide) rfl (hC20.vr hL.m6) ?_
          refine w_sp ?_
          refine w_ic ?_
          refine w_iln rfl ?_
          refine w_mul ⟨by show (-2147483648 : Int) ≤ 3 * mi; omega, by show 3 * mi < (2147483648 : Int); omega⟩ ?_
          refine w_add ⟨by show (-2147483648 : Int) ≤ 320 + (3 * mi); omega, by show 320 + (3 * mi) < (2147483648 : Int); omega⟩ ?_
          refine w_ic ?_
          refine w_add ⟨by show (-2147483648 : Int) ≤ (320 + (3 * mi)) + 2; omega, by show (320 + (3 * mi)) + 2 < (2147483648 : Int); omega⟩ ?_
          refine w_aln rfl ?_
          refine w_gi hL.gm rfl (by decide) rfl (hC20.2.2.2.1.2.2) ?_
          refine w_iast hL.gs rfl (by decide) (by show (0 : Int) ≤ (320 + (3 * mi)) + 2; omega) (by show (320 + (3 * mi)) + 2 < ((537 : Nat) : Int); omega) ?_
          have hC21 := hC20.pC (k := mi.toNat) (v := P) hL (by show ((320 + (3 * mi)) + 2).toNat = 322 + 3 * mi.toNat; omega) (by show mi.toNat < 12; omega)
          refine w_ic ?_
          refine w_is ?_
          show wz _ _ _ _ [some (.inr (.inr (some m))), some (.inl x), some (.inl mi), some (.inl (ye_wy H g L)), some (.inl (ye_co H g A B mi.toNat L O)), some (.inl ((H (76 + mi.toNat)) + x)), some (.inl 0)] _ _ _ _ _
          refine h _ (yq_S.cg hC21 ?_ ?_)
          · unfold ye_g2; rw [if_neg (by omega), if_neg (by omega)]
            rw [show (H (76 + mi.toNat) + x) - (H (76 + mi.toNat) + x) / 2 = ((((H (76 + mi.toNat)) + x) + 1) / 2) by omega]
            refine ye_10 rfl rfl ?_ ?_ rfl rfl rfl rfl rfl rfl
            · exact (show g 224 + (P - ye_co H g A B mi.toNat L O) = g 224 + P - ye_co H g A B mi.toNat L O by omega)
            · exact (show 0 = (if g 225 - ye_wy H g L < 0 then 0 else g 225 - ye_wy H g L) by split <;> omega)
          · unfold ye_R2; rw [if_neg (by omega), if_neg (by omega), show (H (76 + mi.toNat) + x) - (H (76 + mi.toNat) + x) / 2 = ((((H (76 + mi.toNat)) + x) + 1) / 2) by omega]; exact fun _ _ _ _ => rfl
          
      · skip
        refine w_il rfl ?_
        refine w_goto ?_
        refine w_cv (st := []) rfl hL.gm rfl (Nat.le_of_ble_eq_true rfl) (fun kk h => h) (r_X12_comes (d := d + 1) hL hC6 (by show 0 ≤ L ∧ L ≤ 7; omega) (by show 0 ≤ (H (76 + mi.toNat)) + x ∧ (H (76 + mi.toNat)) + x ≤ 2000; omega) hT (((hR0 _ (by show L.toNat < 8; omega)).1).imp (fun q => by omega) (fun q => by omega)) (((hR0 _ (by show L.toNat < 8; omega)).2).imp (fun q => by omega) (fun q => by omega)) (by rw [show (rv_up (rv_up (rv_up (rv_up (rv_up g 224 ((g 224) + (P - (ye_co H g A B mi.toNat L O)))) 231 ((g 231) + (ye_co H g A B mi.toNat L O))) 225 0) 223 L) 226 ((g 226) + ((H (76 + mi.toNat)) + x))) 228 = g 228 from (rv_up_n (by decide)).trans ((rv_up_n (by decide)).trans ((rv_up_n (by decide)).trans ((rv_up_n (by decide)).trans ((rv_up_n (by decide))))))]; omega) (by rw [show (rv_up (rv_up (rv_up (rv_up (rv_up g 224 ((g 224) + (P - (ye_co H g A B mi.toNat L O)))) 231 ((g 231) + (ye_co H g A B mi.toNat L O))) 225 0) 223 L) 226 ((g 226) + ((H (76 + mi.toNat)) + x))) 229 = g 229 from (rv_up_n (by decide)).trans ((rv_up_n (by decide)).trans ((rv_up_n (by decide)).trans ((rv_up_n (by decide)).trans ((rv_up_n (by decide))))))]; omega) (fun M22 hC23 => ?_))
        have g324 : (ye_c1 H R (rv_up (rv_up (rv_up (rv_up (rv_up g 224 ((g 224) + (P - (ye_co H g A B mi.toNat L O)))) 231 ((g 231) + (ye_co H g A B mi.toNat L O))) 225 0) 223 L) 226 ((g 226) + ((H (76 + mi.toNat)) + x))) L ((H (76 + mi.toNat)) + x)) 230 = g 230 := rfl
        refine w_aln rfl ?_
        refine w_gi hL.gm rfl (by decide) rfl (hC23.2.2.2.1.2.1) ?_
        refine w_iflt (fun c25 => ?_) (fun c25 => ?_)
        · skip
          refine w_aln rfl ?_
          refine w_gr hL.gm rfl (by decide) rfl (hC23.vr hL.m6) ?_
          refine w_sp ?_
          refine w_dup2 ?_
          refine w_iald (v := ((ye_c1 H R (rv_up (rv_up (rv_up (rv_up (rv_up g 224 ((g 224) + (P - (ye_co H g A B mi.toNat L O)))) 231 ((g 231) + (ye_co H g A B mi.toNat L O))) 225 0) 223 L) 226 ((g 226) + ((H (76 + mi.toNat)) + x))) L ((H (76 + mi.toNat)) + x)) 230)) hL.gs rfl (by show (0 : Int) ≤ 230; omega) (by show 230 < ((537 : Nat) : Int); omega) (hC23.vg (k := 230) (by decide) (by decide)) ?_
          refine w_ic ?_
          refine w_add ⟨by show (-2147483648 : Int) ≤ ((ye_c1 H R (rv_up (rv_up (rv_up (rv_up (rv_up g 224 ((g 224) + (P - (ye_co H g A B mi.toNat L O)))) 231 ((g 231) + (ye_co H g A B mi.toNat L O))) 225 0) 223 L) 226 ((g 226) + ((H (76 + mi.toNat)) + x))) L ((H (76 + mi.toNat)) + x)) 230) + 1; omega, by show ((ye_c1 H R (rv_up (rv_up (rv_up (rv_up (rv_up g 224 ((g 224) + (P - (ye_co H g A B mi.toNat L O)))) 231 ((g 231) + (ye_co H g A B mi.toNat L O))) 225 0) 223 L) 226 ((g 226) + ((H (76 + mi.toNat)) + x))) L ((H (76 + mi.toNat)) + x)) 230) + 1 < (2147483648 : Int); omega⟩ ?_
          refine w_iast hL.gs rfl (by decide) (by show (0 : Int) ≤ 230; omega) (by show 230 < ((537 : Nat) : Int); omega) ?_
          have hC26 := hC23.pg (k := 230) (v := ((ye_c1 H R (rv_up (rv_up (rv_up (rv_up (rv_up g 224 ((g 224) + (P - (ye_co H g A B mi.toNat L O)))) 231 ((g 231) + (ye_co H g A B mi.toNat L O))) 225 0) 223 L) 226 ((g 226) + ((H (76 + mi.toNat)) + x))) L ((H (76 + mi.toNat)) + x)) 230) + 1) hL (by decide) (by decide) (by show (230 : Int).toNat = 230; omega)
          refine w_aln rfl ?_
          refine w_gr hL.gm rfl (by decide) rfl (hC26.vr hL.m6) ?_
          refine w_sp ?_
          refine w_ic ?_
          refine w_iln rfl ?_
          refine w_mul ⟨by show (-2147483648 : Int) ≤ 3 * mi; omega, by show 3 * mi < (2147483648 : Int); omega⟩ ?_
          refine w_add ⟨by show (-2147483648 : Int) ≤ 320 + (3 * mi); omega, by show 320 + (3 * mi) < (2147483648 : Int); omega⟩ ?_
          refine w_aln rfl ?_
          refine w_gi hL.gm rfl (by decide) rfl (hC26.2.2.2.1.1) ?_
          refine w_iast hL.gs rfl (by decide) (by show (0 : Int) ≤ 320 + (3 * mi); omega) (by show 320 + (3 * mi) < ((537 : Nat) : Int); omega) ?_
          have hC27 := hC26.pA (k := mi.toNat) (v := L) hL (by show (320 + (3 * mi)).toNat = 320 + 3 * mi.toNat; omega) (by show mi.toNat < 12; omega)
          refine w_aln rfl ?_
          refine w_gr hL.gm rfl (by decide) rfl (hC27.vr hL.m6) ?_
          refine w_sp ?_
          refine w_ic ?_
          refine w_iln rfl ?_
          refine w_mul ⟨by show (-2147483648 : Int) ≤ 3 * mi; omega, by show 3 * mi < (2147483648 : Int); omega⟩ ?_
          refine w_add ⟨by show (-2147483648 : Int) ≤ 320 + (3 * mi); omega, by show 320 + (3 * mi) < (2147483648 : Int); omega⟩ ?_
          refine w_ic ?_
          refine w_add ⟨by show (-2147483648 : Int) ≤ (320 + (3 * mi)) + 1; omega, by show (320 + (3 * mi)) + 1 < (2147483648 : Int); omega⟩ ?_
          refine w_aln rfl ?_
          refine w_gi hL.gm rfl (by decide) rfl (hC27.2.2.2.1.2.1) ?_
          refine w_iast hL.gs rfl (by decide) (by show (0 : Int) ≤ (320 + (3 * mi)) + 1; omega) (by show (320 + (3 * mi)) + 1 < ((537 : Nat) : Int); omega) ?_
          have hC28 := hC27.pB (k := mi.toNat) (v := O) hL (by show ((320 + (3 * mi)) + 1).toNat = 321 + 3 * mi.toNat; omega) (by show mi.toNat < 12; omega)
          refine w_aln rfl ?_
          refine w_gr hL.gm rfl (by decide) rfl (hC28.vr hL.m6) ?_
          refine w_sp ?_
          refine w_ic ?_
          refine w_iln rfl ?_
          refine w_mul ⟨by show (-2147483648 : Int) ≤ 3 * mi; omega, by show 3 * mi < (2147483648 : Int); omega⟩ ?_
          refine w_add ⟨by show (-2147483648 : Int) ≤ 320 + (3 * mi); omega, by show 320 + (3 * mi) < (2147483648 : Int); omega⟩ ?_
          refine w_ic ?_
          refine w_add ⟨by show (-2147483648 : Int) ≤ (320 + (3 * mi)) + 2; omega, by show (320 + (3 * mi)) + 2 < (2147483648 : Int); omega⟩ ?_
          refine w_aln rfl ?_
          refine w_gi hL.gm rfl (by decide) rfl (hC28.2.2.2.1.2.2) ?_
          refine w_iast hL.gs rfl (by decide) (by show (0 : Int) ≤ (320 + (3 * mi)) + 2; omega) (by show (320 + (3 * mi)) + 2 < ((537 : Nat) : Int); omega) ?_
          have hC29 := hC28.pC (k := mi.toNat) (v := P) hL (by show ((320 + (3 * mi)) + 2).toNat = 322 + 3 * mi.toNat; omega) (by show mi.toNat < 12; omega)
          refine w_ic ?_
          refine w_is ?_
          show wz _ _ _ _ [some (.inr (.inr (some m))), some (.inl x), some (.inl mi), some (.inl (ye_wy H g L)), some (.inl (ye_co H g A B mi.toNat L O)), some (.inl ((H (76 + mi.toNat)) + x)), some (.inl 0)] _ _ _ _ _
          refine h _ (yq_S.cg hC29 ?_ ?_)
          · unfold ye_g2; rw [if_neg (by omega), if_pos (by omega)]
            refine ye_10 rfl rfl ?_ ?_ rfl rfl rfl rfl rfl rfl
            · exact (show g 224 + (P - ye_co H g A B mi.toNat L O) = g 224 + P - ye_co H g A B mi.toNat L O by omega)
            · exact (show 0 = (if g 225 - ye_wy H g L < 0 then 0 else g 225 - ye_wy H g L) by split <;> omega)
          · unfold ye_R2; rw [if_neg (by omega), if_pos (by omega)]; exact fun _ _ _ _ => rfl
          
        · exfalso; omega
    · skip
      refine w_aln rfl ?_
      refine w_gr hL.gm rfl (by decide) rfl (hC6.vr hL.m6) ?_
      refine w_sp ?_
      refine w_dup2 ?_
      refine w_iald (v := (g 229)) hL.gs rfl (by show (0 : Int) ≤ 229; omega) (by show 229 < ((537 : Nat) : Int); omega) ((hC6.vg (k := 229) (by decide) (by decide)).trans ((rv_up_n (by decide)).trans ((rv_up_n (by decide)).trans ((rv_up_n (by decide)).trans ((rv_up_n (by decide)).trans ((rv_up_n (by decide)))))))) ?_
      refine w_il rfl ?_
      refine w_add ⟨by show (-2147483648 : Int) ≤ (g 229) + ((H (76 + mi.toNat)) + x); omega, by show (g 229) + ((H (76 + mi.toNat)) + x) < (2147483648 : Int); omega⟩ ?_
      refine w_iast hL.gs rfl (by decide) (by show (0 : Int) ≤ 229; omega) (by show 229 < ((537 : Nat) : Int); omega) ?_
      have hC30 := hC6.pg (k := 229) (v := (g 229) + ((H (76 + mi.toNat)) + x)) hL (by decide) (by decide) (by show (229 : Int).toNat = 229; omega)
      refine w_goto ?_
      refine w_aln rfl ?_
      refine w_gr hL.gm rfl (by decide) rfl (hC30.vr hL.m6) ?_
      refine w_sp ?_
      refine w_ic ?_
      refine w_iln rfl ?_
      refine w_mul ⟨by show (-2147483648 : Int) ≤ 3 * mi; omega, by show 3 * mi < (2147483648 : Int); omega⟩ ?_
      refine w_add ⟨by show (-2147483648 : Int) ≤ 320 + (3 * mi); omega, by show 320 + (3 * mi) < (2147483648 : Int); omega⟩ ?_
      refine w_aln rfl ?_
      refine w_gi hL.gm rfl (by decide) rfl (hC30.2.2.2.1.1) ?_
      refine w_iast hL.gs rfl (by decide) (by show (0 : Int) ≤ 320 + (3 * mi); omega) (by show 320 + (3 * mi) < ((537 : Nat) : Int); omega) ?_
      have hC31 := hC30.pA (k := mi.toNat) (v := L) hL (by show (320 + (3 * mi)).toNat = 320 + 3 * mi.toNat; omega) (by show mi.toNat < 12; omega)
      refine w_aln rfl ?_
      refine w_gr hL.gm rfl (by decide) rfl (hC31.vr hL.m6) ?_
      refine w_sp ?_
      refine w_ic ?_
      refine w_iln rfl ?_
      refine w_mul ⟨by show (-2147483648 : Int) ≤ 3 * mi; omega, by show 3 * mi < (2147483648 : Int); omega⟩ ?_
      refine w_add ⟨by show (-2147483648 : Int) ≤ 320 + (3 * mi); omega, by show 320 + (3 * mi) < (2147483648 : Int); omega⟩ ?_
      refine w_ic ?_
      refine w_add ⟨by show (-2147483648 : Int) ≤ (320 + (3 * mi)) + 1; omega, by show (320 + (3 * mi)) + 1 < (2147483648 : Int); omega⟩ ?_
      refine w_aln rfl ?_
      refine w_gi hL.gm rfl (by decide) rfl (hC31.2.2.2.1.2.1) ?_
      refine w_iast hL.gs rfl (by decide) (by show (0 : Int) ≤ (320 + (3 * mi)) + 1; omega) (by show (320 + (3 * mi)) + 1 < ((537 : Nat) : Int); omega) ?_
      have hC32 := hC31.pB (k := mi.toNat) (v := O) hL (by show ((320 + (3 * mi)) + 1).toNat = 321 + 3 * mi.toNat; omega) (by show mi.toNat < 12; omega)
      refine w_aln rfl ?_
      refine w_gr hL.gm rfl (by decide) rfl (hC32.vr hL.m6) ?_
      refine w_sp ?_
      refine w_ic ?_
      refine w_iln rfl ?_
      refine w_mul ⟨by show (-2147483648 : Int) ≤ 3 * mi; omega, by show 3 * mi < (2147483648 : Int); omega⟩ ?_
      refine w_add ⟨by show (-2147483648 : Int) ≤ 320 + (3 * mi); omega, by show 320 + (3 * mi) < (2147483648 : Int); omega⟩ ?_
      refine w_ic ?_
      refine w_add ⟨by show (-2147483648 : Int) ≤ (320 + (3 * mi)) + 2; omega, by show (320 + (3 * mi)) + 2 < (2147483648 : Int); omega⟩ ?_
      refine w_aln rfl ?_
      refine w_gi hL.gm rfl (by decide) rfl (hC32.2.2.2.1.2.2) ?_
      refine w_iast hL.gs rfl (by decide) (by show (0 : Int) ≤ (320 + (3 * mi)) + 2; omega) (by show (320 + (3 * mi)) + 2 < ((537 : Nat) : Int); omega) ?_
      have hC33 := hC32.pC (k := mi.toNat) (v := P) hL (by show ((320 + (3 * mi)) + 2).toNat = 322 + 3 * mi.toNat; omega) (by show mi.toNat < 12; omega)
      refine w_ic ?_
      refine w_is ?_
      show wz _ _ _ _ [some (.inr (.inr (some m))), some (.inl x), some (.inl mi), some (.inl (ye_wy H g L)), some (.inl (ye_co H g A B mi.toNat L O)), some (.inl ((H (76 + mi.toNat)) + x)), some (.inl 0)] _ _ _ _ _
      refine h _ (yq_S.cg hC33 ?_ ?_)
      · unfold ye_g2; rw [if_pos (by omega)]
        refine ye_10 rfl rfl ?_ ?_ rfl rfl rfl rfl rfl rfl
        · exact (show g 224 + (P - ye_co H g A B mi.toNat L O) = g 224 + P - ye_co H g A B mi.toNat L O by omega)
        · exact (show 0 = (if g 225 - ye_wy H g L < 0 then 0 else g 225 - ye_wy H g L) by split <;> omega)
      · unfold ye_R2; rw [if_pos (by omega)]; exact fun _ _ _ _ => rfl
      
  · skip
    refine w_aln rfl ?_
    refine w_gr hL.gm rfl (by decide) rfl (hC2.vr hL.m6) ?_
    refine w_sp ?_
    refine w_iald (v := (g 225)) hL.gs rfl (by show (0 : Int) ≤ 225; omega) (by show 225 < ((537 : Nat) : Int); omega) ((hC2.vg (k := 225) (by decide) (by decide)).trans ((rv_up_n (by decide)).trans ((rv_up_n (by decide))))) ?_
    refine w_iln rfl ?_
    refine w_sub ⟨by show (-2147483648 : Int) ≤ (g 225) - (ye_wy H g L); omega, by show (g 225) - (ye_wy H g L) < (2147483648 : Int); omega⟩ ?_
    refine w_goto ?_
    refine w_iast hL.gs rfl (by decide) (by show (0 : Int) ≤ 225; omega) (by show 225 < ((537 : Nat) : Int); omega) ?_
    have hC34 := hC2.pg (k := 225) (v := (g 225) - (ye_wy H g L)) hL (by decide) (by decide) (by show (225 : Int).toNat = 225; omega)
    refine w_aln rfl ?_
    refine w_gr hL.gm rfl (by decide) rfl (hC34.vr hL.m6) ?_
    refine w_sp ?_
    refine w_aln rfl ?_
    refine w_gi hL.gm rfl (by decide) rfl (hC34.2.2.2.1.1) ?_
    refine w_iast hL.gs rfl (by decide) (by show (0 : Int) ≤ 223; omega) (by show 223 < ((537 : Nat) : Int); omega) ?_
    have hC35 := hC34.pg (k := 223) (v := L) hL (by decide) (by decide) (by show (223 : Int).toNat = 223; omega)
    refine w_aln rfl ?_
    refine w_gr hL.gm rfl (by decide) rfl (hC35.vr hL.m6) ?_
    refine w_bp ?_
    refine w_iln rfl ?_
    refine w_add ⟨by show (-2147483648 : Int) ≤ 76 + mi; omega, by show 76 + mi < (2147483648 : Int); omega⟩ ?_
    refine w_iald (v := (H (76 + mi.toNat))) hL.gs rfl (by show (0 : Int) ≤ 76 + mi; omega) (by show 76 + mi < ((537 : Nat) : Int); omega) (hC35.vn hL (by show (76 + mi).toNat = 76 + mi.toNat; omega) (by show 76 + mi.toNat < 221; omega)) ?_
    refine w_iln rfl ?_
    refine w_add ⟨by show (-2147483648 : Int) ≤ (H (76 + mi.toNat)) + x; omega, by show (H (76 + mi.toNat)) + x < (2147483648 : Int); omega⟩ ?_
    refine w_is ?_
    show wz _ _ _ _ [some (.inr (.inr (some m))), some (.inl x), some (.inl mi), some (.inl (ye_wy H g L)), some (.inl (ye_co H g A B mi.toNat L O)), some (.inl ((H (76 + mi.toNat)) + x)), y6] _ _ _ _ _
    refine w_aln rfl ?_
    refine w_gr hL.gm rfl (by decide) rfl (hC35.vr hL.m6) ?_
    refine w_sp ?_
    refine w_dup2 ?_
    refine w_iald (v := (g 226)) hL.gs rfl (by show (0 : Int) ≤ 226; omega) (by show 226 < ((537 : Nat) : Int); omega) ((hC35.vg (k := 226) (by decide) (by decide)).trans ((rv_up_n (by decide)).trans ((rv_up_n (by decide)).trans ((rv_up_n (by decide)).trans ((rv_up_n (by decide))))))) ?_
    refine w_il rfl ?_
    refine w_add ⟨by show (-2147483648 : Int) ≤ (g 226) + ((H (76 + mi.toNat)) + x); omega, by show (g 226) + ((H (76 + mi.toNat)) + x) < (2147483648 : Int); omega⟩ ?_
    refine w_iast hL.gs rfl (by decide) (by show (0 : Int) ≤ 226; omega) (by show 226 < ((537 : Nat) : Int); omega) ?_
    have hC36 := hC35.pg (k := 226) (v := (g 226) + ((H (76 + mi.toNat)) + x)) hL (by decide) (by decide) (by show (226 : Int).toNat = 226; omega)
    refine w_aln rfl ?_
    refine w_gi hL.gm rfl (by decide) rfl (hC36.2.2.2.1.1) ?_
    refine w_bp ?_
    refine w_cmne (fun c37 => ?_) (fun c37 => ?_)
    · skip
      refine w_aln rfl ?_
      refine w_aln rfl ?_
      refine w_gi hL.gm rfl (by decide) rfl (hC36.2.2.2.1.1) ?_
      refine w_aln rfl ?_
      refine w_gi hL.gm rfl (by decide) rfl (hC36.2.2.2.1.2.1) ?_
      refine w_ifge (fun c38 => ?_) (fun c38 => ?_)
      · skip
        refine w_il rfl ?_
        refine w_ic ?_
        refine w_add ⟨by show (-2147483648 : Int) ≤ ((H (76 + mi.toNat)) + x) + 1; omega, by show ((H (76 + mi.toNat)) + x) + 1 < (2147483648 : Int); omega⟩ ?_
        refine w_ic ?_
        refine w_div (by decide) ?_
        intro z39 hz39 ez39
        obtain rfl : z39 = ((((H (76 + mi.toNat)) + x) + 1) / 2) := ye_half (by omega) (by omega) ez39
        refine w_cv (st := []) rfl hL.gm rfl (Nat.le_of_ble_eq_true rfl) (fun kk h => h) (r_X12_comes (d := d + 1) hL hC36 (by show 0 ≤ L ∧ L ≤ 7; omega) (by show 0 ≤ ((((H (76 + mi.toNat)) + x) + 1) / 2) ∧ ((((H (76 + mi.toNat)) + x) + 1) / 2) ≤ 2000; omega) hT (((hR0 _ (by show L.toNat < 8; omega)).1).imp (fun q => by omega) (fun q => by omega)) (((hR0 _ (by show L.toNat < 8; omega)).2).imp (fun q => by omega) (fun q => by omega)) (by rw [show (rv_up (rv_up (rv_up (rv_up (rv_up g 224 ((g 224) + (P - (ye_co H g A B mi.toNat L O)))) 231 ((g 231) + (ye_co H g A B mi.toNat L O))) 225 ((g 225) - (ye_wy H g L))) 223 L) 226 ((g 226) + ((H (76 + mi.toNat)) + x))) 228 = g 228 from (rv_up_n (by decide)).trans ((rv_up_n (by decide)).trans ((rv_up_n (by decide)).trans ((rv_up_n (by decide)).trans ((rv_up_n (by decide))))))]; omega) (by rw [show (rv_up (rv_up (rv_up (rv_up (rv_up g 224 ((g 224) + (P - (ye_co H g A B mi.toNat L O)))) 231 ((g 231) + (ye_co H g A B mi.toNat L O))) 225 ((g 225) - (ye_wy H g L))) 223 L) 226 ((g 226) + ((H (76 + mi.toNat)) + x))) 229 = g 229 from (rv_up_n (by decide)).trans ((rv_up_n (by decide)).trans ((rv_up_n (by decide)).trans ((rv_up_n (by decide)).trans ((rv_up_n (by decide))))))]; omega) (fun M40 hC41 => ?_))
        have g342 : (ye_c1 H R (rv_up (rv_up (rv_up (rv_up (rv_up g 224 ((g 224) + (P - (ye_co H g A B mi.toNat L O)))) 231 ((g 231) + (ye_co H g A B mi.toNat L O))) 225 ((g 225) - (ye_wy H g L))) 223 L) 226 ((g 226) + ((H (76 + mi.toNat)) + x))) L ((((H (76 + mi.toNat)) + x) + 1) / 2)) 230 = g 230 := rfl
        refine w_aln rfl ?_
        refine w_gi hL.gm rfl (by decide) rfl (hC41.2.2.2.1.2.1) ?_
        refine w_iflt (fun c43 => ?_) (fun c43 => ?_)
        · exfalso; omega
        · skip
          refine w_aln rfl ?_
          refine w_aln rfl ?_
          refine w_gi hL.gm rfl (by decide) rfl (hC41.2.2.2.1.2.1) ?_
          refine w_il rfl ?_
          refine w_ic ?_
          refine w_div (by decide) ?_
          intro z44 hz44 ez44
          obtain rfl : z44 = (((H (76 + mi.toNat)) + x) / 2) := ye_half (by omega) (by omega) ez44
          have hi1 := hin R L ((((H (76 + mi.toNat)) + x) + 1) / 2) (by omega) (by omega) (by omega) (by omega) (hR0 _ (by omega)).1.1 (hR0 _ (by omega)).1.2
          refine w_cv (st := []) rfl hL.gm rfl (Nat.le_of_ble_eq_true rfl) (fun kk h => h) (r_X12_comes (d := d + 1) hL hC41 (by show 0 ≤ O ∧ O ≤ 7; omega) (by show 0 ≤ (((H (76 + mi.toNat)) + x) / 2) ∧ (((H (76 + mi.toNat)) + x) / 2) ≤ 2000; omega) hT (by rw [show (ye_cR H R L ((((H (76 + mi.toNat)) + x) + 1) / 2)) = ye_ru R L.toNat _ from rfl, ye_ru_n (show O.toNat ≠ L.toNat by omega)]; have q := hR0 O.toNat (by omega); omega) (by rw [show (ye_cR H R L ((((H (76 + mi.toNat)) + x) + 1) / 2)) = ye_ru R L.toNat _ from rfl, ye_ru_n (show O.toNat ≠ L.toNat by omega)]; have q := hR0 O.toNat (by omega); omega) (by rw [show (ye_c1 H R (rv_up (rv_up (rv_up (rv_up (rv_up g 224 ((g 224) + (P - (ye_co H g A B mi.toNat L O)))) 231 ((g 231) + (ye_co H g A B mi.toNat L O))) 225 ((g 225) - (ye_wy H g L))) 223 L) 226 ((g 226) + ((H (76 + mi.toNat)) + x))) L ((((H (76 + mi.toNat)) + x) + 1) / 2)) 228 = g 228 + ye_se H L ((((H (76 + mi.toNat)) + x) + 1) / 2) from rfl]; omega) (by rw [show (ye_c1 H R (rv_up (rv_up (rv_up (rv_up (rv_up g 224 ((g 224) + (P - (ye_co H g A B mi.toNat L O)))) 231 ((g 231) + (ye_co H g A B mi.toNat L O))) 225 ((g 225) - (ye_wy H g L))) 223 L) 226 ((g 226) + ((H (76 + mi.toNat)) + x))) L ((((H (76 + mi.toNat)) + x) + 1) / 2)) 229 = g 229 + (((((H (76 + mi.toNat)) + x) + 1) / 2) - ye_se H L ((((H (76 + mi.toNat)) + x) + 1) / 2) - ye_in H R L ((((H (76 + mi.toNat)) + x) + 1) / 2)) from rfl]; omega) (fun M45 hC46 => ?_))
          have g347 : (ye_c1 H (ye_cR H R L ((((H (76 + mi.toNat)) + x) + 1) / 2)) (ye_c1 H R (rv_up (rv_up (rv_up (rv_up (rv_up g 224 ((g 224) + (P - (ye_co H g A B mi.toNat L O)))) 231 ((g 231) + (ye_co H g A B mi.toNat L O))) 225 ((g 225) - (ye_wy H g L))) 223 L) 226 ((g 226) + ((H (76 + mi.toNat)) + x))) L ((((H (76 + mi.toNat)) + x) + 1) / 2)) O (((H (76 + mi.toNat)) + x) / 2)) 230 = g 230 := rfl
          refine w_aln rfl ?_
          refine w_gr hL.gm rfl (by decide) rfl (hC46.vr hL.m6) ?_
          refine w_sp ?_
          refine w_dup2 ?_
          refine w_iald (v := ((ye_c1 H (ye_cR H R L ((((H (76 + mi.toNat)) + x) + 1) / 2)) (ye_c1 H R (rv_up (rv_up (rv_up (rv_up (rv_up g 224 ((g 224) + (P - (ye_co H g A B mi.toNat L O)))) 231 ((g 231) + (ye_co H g A B mi.toNat L O))) 225 ((g 225) - (ye_wy H g L))) 223 L) 226 ((g 226) + ((H (76 + mi.toNat)) + x))) L ((((H (76 + mi.toNat)) + x) + 1) / 2)) O (((H (76 + mi.toNat)) + x) / 2)) 230)) hL.gs rfl (by show (0 : Int) ≤ 230; omega) (by show 230 < ((537 : Nat) : Int); omega) (hC46.vg (k := 230) (by decide) (by decide)) ?_
          refine w_ic ?_
          refine w_add ⟨by show (-2147483648 : Int) ≤ ((ye_c1 H (ye_cR H R L ((((H (76 + mi.toNat)) + x) + 1) / 2)) (ye_c1 H R (rv_up (rv_up (rv_up (rv_up (rv_up g 224 ((g 224) + (P - (ye_co H g A B mi.toNat L O)))) 231 ((g 231) + (ye_co H g A B mi.toNat L O))) 225 ((g 225) - (ye_wy H g L))) 223 L) 226 ((g 226) + ((H (76 + mi.toNat)) + x))) L ((((H (76 + mi.toNat)) + x) + 1) / 2)) O (((H (76 + mi.toNat)) + x) / 2)) 230) + 1; omega, by show ((ye_c1 H (ye_cR H R L ((((H (76 + mi.toNat)) + x) + 1) / 2)) (ye_c1 H R (rv_up (rv_up (rv_up (rv_up (rv_up g 224 ((g 224) + (P - (ye_co H g A B mi.toNat L O)))) 231 ((g 231) + (ye_co H g A B mi.toNat L O))) 225 ((g 225) - (ye_wy H g L))) 223 L) 226 ((g 226) + ((H (76 + mi.toNat)) + x))) L ((((H (76 + mi.toNat)) + x) + 1) / 2)) O (((H (76 + mi.toNat)) + x) / 2)) 230) + 1 < (2147483648 : Int); omega⟩ ?_
          refine w_iast hL.gs rfl (by decide) (by show (0 : Int) ≤ 230; omega) (by show 230 < ((537 : Nat) : Int); omega) ?_
          have hC48 := hC46.pg (k := 230) (v := ((ye_c1 H (ye_cR H R L ((((H (76 + mi.toNat)) + x) + 1) / 2)) (ye_c1 H R (rv_up (rv_up (rv_up (rv_up (rv_up g 224 ((g 224) + (P - (ye_co H g A B mi.toNat L O)))) 231 ((g 231) + (ye_co H g A B mi.toNat L O))) 225 ((g 225) - (ye_wy H g L))) 223 L) 226 ((g 226) + ((H (76 + mi.toNat)) + x))) L ((((H (76 + mi.toNat)) + x) + 1) / 2)) O (((H (76 + mi.toNat)) + x) / 2)) 230) + 1) hL (by decide) (by decide) (by show (230 : Int).toNat = 230; omega)
          refine w_aln rfl ?_
          refine w_gr hL.gm rfl (by decide) rfl (hC48.vr hL.m6) ?_
          refine w_sp ?_
          refine w_ic ?_
          refine w_iln rfl ?_
          refine w_mul ⟨by show (-2147483648 : Int) ≤ 3 * mi; omega, by show 3 * mi < (2147483648 : Int); omega⟩ ?_
          refine w_add ⟨by show (-2147483648 : Int) ≤ 320 + (3 * mi); omega, by show 320 + (3 * mi) < (2147483648 : Int); omega⟩ ?_
          refine w_aln rfl ?_
          refine w_gi hL.gm rfl (by decide) rfl (hC48.2.2.2.1.1) ?_
          refine w_iast hL.gs rfl (by decide) (by show (0 : Int) ≤ 320 + (3 * mi); omega) (by show 320 + (3 * mi) < ((537 : Nat) : Int); omega) ?_
          have hC49 := hC48.pA (k := mi.toNat) (v := L) hL (by show (320 + (3 * mi)).toNat = 320 + 3 * mi.toNat; omega) (by show mi.toNat < 12; omega)
          refine w_aln rfl ?_
          refine w_gr hL.gm rfl (by decide) rfl (hC49.vr hL.m6) ?_
          refine w_sp ?_
          refine w_ic ?_
          refine w_iln rfl ?_
          refine w_mul ⟨by show (-2147483648 : Int) ≤ 3 * mi; omega, by show 3 * mi < (2147483648 : Int); omega⟩ ?_
          refine w_add ⟨by show (-2147483648 : Int) ≤ 320 + (3 * mi); omega, by show 320 + (3 * mi) < (2147483648 : Int); omega⟩ ?_
          refine w_ic ?_
          refine w_add ⟨by show (-2147483648 : Int) ≤ (320 + (3 * mi)) + 1; omega, by show (320 + (3 * mi)) + 1 < (2147483648 : Int); omega⟩ ?_
          refine w_aln rfl ?_
          refine w_gi hL.gm rfl (by decide) rfl (hC49.2.2.2.1.2.1) ?_
          refine w_iast hL.gs rfl (by decide) (by show (0 : Int) ≤ (320 + (3 * mi)) + 1; omega) (by show (320 + (3 * mi)) + 1 < ((537 : Nat) : Int); omega) ?_
          have hC50 := hC49.pB (k := mi.toNat) (v := O) hL (by show ((320 + (3 * mi)) + 1).toNat = 321 + 3 * mi.toNat; omega) (by show mi.toNat < 12; omega)
          refine w_aln rfl ?_
          refine w_gr hL.gm rfl (by decide) rfl (hC50.vr hL.m6) ?_
          refine w_sp ?_
          refine w_ic ?_
          refine w_iln rfl ?_
          refine w_mul ⟨by show (-2147483648 : Int) ≤ 3 * mi; omega, by show 3 * mi < (2147483648 : Int); omega⟩ ?_
          refine w_add ⟨by show (-2147483648 : Int) ≤ 320 + (3 * mi); omega, by show 320 + (3 * mi) < (2147483648 : Int); omega⟩ ?_
          refine w_ic ?_
          refine w_add ⟨by show (-2147483648 : Int) ≤ (320 + (3 * mi)) + 2; omega, by show (320 + (3 * mi)) + 2 < (2147483648 : Int); omega⟩ ?_
          refine w_aln rfl ?_
          refine w_gi hL.gm rfl (by decide) rfl (hC50.2.2.2.1.2.2) ?_
          refine w_iast hL.gs rfl (by decide) (by show (0 : Int) ≤ (320 + (3 * mi)) + 2; omega) (by show (320 + (3 * mi)) + 2 < ((537 : Nat) : Int); omega) ?_
          have hC51 := hC50.pC (k := mi.toNat) (v := P) hL (by show ((320 + (3 * mi)) + 2).toNat = 322 + 3 * mi.toNat; omega) (by show mi.toNat < 12; omega)
          refine w_ic ?_
          refine w_is ?_
          show wz _ _ _ _ [some (.inr (.inr (some m))), some (.inl x), some (.inl mi), some (.inl (ye_wy H g L)), some (.inl (ye_co H g A B mi.toNat L O)), some (.inl ((H (76 + mi.toNat)) + x)), some (.inl 0)] _ _ _ _ _
          refine h _ (yq_S.cg hC51 ?_ ?_)
          · unfold ye_g2; rw [if_neg (by omega), if_neg (by omega)]
            rw [show (H (76 + mi.toNat) + x) - (H (76 + mi.toNat) + x) / 2 = ((((H (76 + mi.toNat)) + x) + 1) / 2) by omega]
            refine ye_10 rfl rfl ?_ ?_ rfl rfl rfl rfl rfl rfl
            · exact (show g 224 + (P - ye_co H g A B mi.toNat L O) = g 224 + P - ye_co H g A B mi.toNat L O by omega)
            · exact (show (g 225) - (ye_wy H g L) = (if g 225 - ye_wy H g L < 0 then 0 else g 225 - ye_wy H g L) by split <;> omega)
          · unfold ye_R2; rw [if_neg (by omega), if_neg (by omega), show (H (76 + mi.toNat) + x) - (H (76 + mi.toNat) + x) / 2 = ((((H (76 + mi.toNat)) + x) + 1) / 2) by omega]; exact fun _ _ _ _ => rfl
          
      · skip
        refine w_il rfl ?_
        refine w_goto ?_
        refine w_cv (st := []) rfl hL.gm rfl (Nat.le_of_ble_eq_true rfl) (fun kk h => h) (r_X12_comes (d := d + 1) hL hC36 (by show 0 ≤ L ∧ L ≤ 7; omega) (by show 0 ≤ (H (76 + mi.toNat)) + x ∧ (H (76 + mi.toNat)) + x ≤ 2000; omega) hT (((hR0 _ (by show L.toNat < 8; omega)).1).imp (fun q => by omega) (fun q => by omega)) (((hR0 _ (by show L.toNat < 8; omega)).2).imp (fun q => by omega) (fun q => by omega)) (by rw [show (rv_up (rv_up (rv_up (rv_up (rv_up g 224 ((g 224) + (P - (ye_co H g A B mi.toNat L O)))) 231 ((g 231) + (ye_co H g A B mi.toNat L O))) 225 ((g 225) - (ye_wy H g L))) 223 L) 226 ((g 226) + ((H (76 + mi.toNat)) + x))) 228 = g 228 from (rv_up_n (by decide)).trans ((rv_up_n (by decide)).trans ((rv_up_n (by decide)).trans ((rv_up_n (by decide)).trans ((rv_up_n (by decide))))))]; omega) (by rw [show (rv_up (rv_up (rv_up (rv_up (rv_up g 224 ((g 224) + (P - (ye_co H g A B mi.toNat L O)))) 231 ((g 231) + (ye_co H g A B mi.toNat L O))) 225 ((g 225) - (ye_wy H g L))) 223 L) 226 ((g 226) + ((H (76 + mi.toNat)) + x))) 229 = g 229 from (rv_up_n (by decide)).trans ((rv_up_n (by decide)).trans ((rv_up_n (by decide)).trans ((rv_up_n (by decide)).trans ((rv_up_n (by decide))))))]; omega) (fun M52 hC53 => ?_))
        have g354 : (ye_c1 H R (rv_up (rv_up (rv_up (rv_up (rv_up g 224 ((g 224) + (P - (ye_co H g A B mi.toNat L O)))) 231 ((g 231) + (ye_co H g A B mi.toNat L O))) 225 ((g 225) - (ye_wy H g L))) 223 L) 226 ((g 226) + ((H (76 + mi.toNat)) + x))) L ((H (76 + mi.toNat)) + x)) 230 = g 230 := rfl
        refine w_aln rfl ?_
        refine w_gi hL.gm rfl (by decide) rfl (hC53.2.2.2.1.2.1) ?_
        refine w_iflt (fun c55 => ?_) (fun c55 => ?_)
        · skip
          refine w_aln rfl ?_
          refine w_gr hL.gm rfl (by decide) rfl (hC53.vr hL.m6) ?_
          refine w_sp ?_
          refine w_dup2 ?_
          refine w_iald (v := ((ye_c1 H R (rv_up (rv_up (rv_up (rv_up (rv_up g 224 ((g 224) + (P - (ye_co H g A B mi.toNat L O)))) 231 ((g 231) + (ye_co H g A B mi.toNat L O))) 225 ((g 225) - (ye_wy H g L))) 223 L) 226 ((g 226) + ((H (76 + mi.toNat)) + x))) L ((H (76 + mi.toNat)) + x)) 230)) hL.gs rfl (by show (0 : Int) ≤ 230; omega) (by show 230 < ((537 : Nat) : Int); omega) (hC53.vg (k := 230) (by decide) (by decide)) ?_
          refine w_ic ?_
          refine w_add ⟨by show (-2147483648 : Int) ≤ ((ye_c1 H R (rv_up (rv_up (rv_up (rv_up (rv_up g 224 ((g 224) + (P - (ye_co H g A B mi.toNat L O)))) 231 ((g 231) + (ye_co H g A B mi.toNat L O))) 225 ((g 225) - (ye_wy H g L))) 223 L) 226 ((g 226) + ((H (76 + mi.toNat)) + x))) L ((H (76 + mi.toNat)) + x)) 230) + 1; omega, by show ((ye_c1 H R (rv_up (rv_up (rv_up (rv_up (rv_up g 224 ((g 224) + (P - (ye_co H g A B mi.toNat L O)))) 231 ((g 231) + (ye_co H g A B mi.toNat L O))) 225 ((g 225) - (ye_wy H g L))) 223 L) 226 ((g 226) + ((H (76 + mi.toNat)) + x))) L ((H (76 + mi.toNat)) + x)) 230) + 1 < (2147483648 : Int); omega⟩ ?_
          refine w_iast hL.gs rfl (by decide) (by show (0 : Int) ≤ 230; omega) (by show 230 < ((537 : Nat) : Int); omega) ?_
          have hC56 := hC53.pg (k := 230) (v := ((ye_c1 H R (rv_up (rv_up (rv_up (rv_up (rv_up g 224 ((g 224) + (P - (ye_co H g A B mi.toNat L O)))) 231 ((g 231) + (ye_co H g A B mi.toNat L O))) 225 ((g 225) - (ye_wy H g L))) 223 L) 226 ((g 226) + ((H (76 + mi.toNat)) + x))) L ((H (76 + mi.toNat)) + x)) 230) + 1) hL (by decide) (by decide) (by show (230 : Int).toNat = 230; omega)
          refine w_aln rfl ?_
          refine w_gr hL.gm rfl (by decide) rfl (hC56.vr hL.m6) ?_
          refine w_sp ?_
          refine w_ic ?_
          refine w_iln rfl ?_
          refine w_mul ⟨by show (-2147483648 : Int) ≤ 3 * mi; omega, by show 3 * mi < (2147483648 : Int); omega⟩ ?_
          refine w_add ⟨by show (-2147483648 : Int) ≤ 320 + (3 * mi); omega, by show 320 + (3 * mi) < (2147483648 : Int); omega⟩ ?_
          refine w_aln rfl ?_
          refine w_gi hL.gm rfl (by decide) rfl (hC56.2.2.2.1.1) ?_
          refine w_iast hL.gs rfl (by decide) (by show (0 : Int) ≤ 320 + (3 * mi); omega) (by show 320 + (3 * mi) < ((537 : Nat) : Int); omega) ?_
          have hC57 := hC56.pA (k := mi.toNat) (v := L) hL (by show (320 + (3 * mi)).toNat = 320 + 3 * mi.toNat; omega) (by show mi.toNat < 12; omega)
          refine w_aln rfl ?_
          refine w_gr hL.gm rfl (by decide) rfl (hC57.vr hL.m6) ?_
          refine w_sp ?_
          refine w_ic ?_
          refine w_iln rfl ?_
          refine w_mul ⟨by show (-2147483648 : Int) ≤ 3 * mi; omega, by show 3 * mi < (2147483648 : Int); omega⟩ ?_
          refine w_add ⟨by show (-2147483648 : Int) ≤ 320 + (3 * mi); omega, by show 320 + (3 * mi) < (2147483648 : Int); omega⟩ ?_
          refine w_ic ?_
          refine w_add ⟨by show (-2147483648 : Int) ≤ (320 + (3 * mi)) + 1; omega, by show (320 + (3 * mi)) + 1 < (2147483648 : Int); omega⟩ ?_
          refine w_aln rfl ?_
          refine w_gi hL.gm rfl (by decide) rfl (hC57.2.2.2.1.2.1) ?_
          refine w_iast hL.gs rfl (by decide) (by show (0 : Int) ≤ (320 + (3 * mi)) + 1; omega) (by show (320 + (3 * mi)) + 1 < ((537 : Nat) : Int); omega) ?_
          have hC58 := hC57.pB (k := mi.toNat) (v := O) hL (by show ((320 + (3 * mi)) + 1).toNat = 321 + 3 * mi.toNat; omega) (by show mi.toNat < 12; omega)
          refine w_aln rfl ?_
          refine w_gr hL.gm rfl (by decide) rfl (hC58.vr hL.m6) ?_
          refine w_sp ?_
          refine w_ic ?_
          refine w_iln rfl ?_
          refine w_mul ⟨by show (-2147483648 : Int) ≤ 3 * mi; omega, by show 3 * mi < (2147483648 : Int); omega⟩ ?_
          refine w_add ⟨by show (-2147483648 : Int) ≤ 320 + (3 * mi); omega, by show 320 + (3 * mi) < (2147483648 : Int); omega⟩ ?_
          refine w_ic ?_
          refine w_add ⟨by show (-2147483648 : Int) ≤ (320 + (3 * mi)) + 2; omega, by show (320 + (3 * mi)) + 2 < (2147483648 : Int); omega⟩ ?_
          refine w_aln rfl ?_
          refine w_gi hL.gm rfl (by decide) rfl (hC58.2.2.2.1.2.2) ?_
          refine w_iast hL.gs rfl (by decide) (by show (0 : Int) ≤ (320 + (3 * mi)) + 2; omega) (by show (320 + (3 * mi)) + 2 < ((537 : Nat) : Int); omega) ?_
          have hC59 := hC58.pC (k := mi.toNat) (v := P) hL (by show ((320 + (3 * mi)) + 2).toNat = 322 + 3 * mi.toNat; omega) (by show mi.toNat < 12; omega)
          refine w_ic ?_
          refine w_is ?_
          show wz _ _ _ _ [some (.inr (.inr (some m))), some (.inl x), some (.inl mi), some (.inl (ye_wy H g L)), some (.inl (ye_co H g A B mi.toNat L O)), some (.inl ((H (76 + mi.toNat)) + x)), some (.inl 0)] _ _ _ _ _
          refine h _ (yq_S.cg hC59 ?_ ?_)
          · unfold ye_g2; rw [if_neg (by omega), if_pos (by omega)]
            refine ye_10 rfl rfl ?_ ?_ rfl rfl rfl rfl rfl rfl
            · exact (show g 224 + (P - ye_co H g A B mi.toNat L O) = g 224 + P - ye_co H g A B mi.toNat L O by omega)
            · exact (show (g 225) - (ye_wy H g L) = (if g 225 - ye_wy H g L < 0 then 0 else g 225 - ye_wy H g L) by split <;> omega)
          · unfold ye_R2; rw [if_neg (by omega), if_pos (by omega)]; exact fun _ _ _ _ => rfl
          
        · exfalso; omega
    · skip
      refine w_aln rfl ?_
      refine w_gr hL.gm rfl (by decide) rfl (hC36.vr hL.m6) ?_
      refine w_sp ?_
      refine w_dup2 ?_
      refine w_iald (v := (g 229)) hL.gs rfl (by show (0 : Int) ≤ 229; omega) (by show 229 < ((537 : Nat) : Int); omega) ((hC36.vg (k := 229) (by decide) (by decide)).trans ((rv_up_n (by decide)).trans ((rv_up_n (by decide)).trans ((rv_up_n (by decide)).trans ((rv_up_n (by decide)).trans ((rv_up_n (by decide)))))))) ?_
      refine w_il rfl ?_
      refine w_add ⟨by show (-2147483648 : Int) ≤ (g 229) + ((H (76 + mi.toNat)) + x); omega, by show (g 229) + ((H (76 + mi.toNat)) + x) < (2147483648 : Int); omega⟩ ?_
      refine w_iast hL.gs rfl (by decide) (by show (0 : Int) ≤ 229; omega) (by show 229 < ((537 : Nat) : Int); omega) ?_
      have hC60 := hC36.pg (k := 229) (v := (g 229) + ((H (76 + mi.toNat)) + x)) hL (by decide) (by decide) (by show (229 : Int).toNat = 229; omega)
      refine w_goto ?_
      refine w_aln rfl ?_
      refine w_gr hL.gm rfl (by decide) rfl (hC60.vr hL.m6) ?_
      refine w_sp ?_
      refine w_ic ?_
      refine w_iln rfl ?_
      refine w_mul ⟨by show (-2147483648 : Int) ≤ 3 * mi; omega, by show 3 * mi < (2147483648 : Int); omega⟩ ?_
      refine w_add ⟨by show (-2147483648 : Int) ≤ 320 + (3 * mi); omega, by show 320 + (3 * mi) < (2147483648 : Int); omega⟩ ?_
      refine w_aln rfl ?_
      refine w_gi hL.gm rfl (by decide) rfl (hC60.2.2.2.1.1) ?_
      refine w_iast hL.gs rfl (by decide) (by show (0 : Int) ≤ 320 + (3 * mi); omega) (by show 320 + (3 * mi) < ((537 : Nat) : Int); omega) ?_
      have hC61 := hC60.pA (k := mi.toNat) (v := L) hL (by show (320 + (3 * mi)).toNat = 320 + 3 * mi.toNat; omega) (by show mi.toNat < 12; omega)
      refine w_aln rfl ?_
      refine w_gr hL.gm rfl (by decide) rfl (hC61.vr hL.m6) ?_
      refine w_sp ?_
      refine w_ic ?_
      refine w_iln rfl ?_
      refine w_mul ⟨by show (-2147483648 : Int) ≤ 3 * mi; omega, by show 3 * mi < (2147483648 : Int); omega⟩ ?_
      refine w_add ⟨by show (-2147483648 : Int) ≤ 320 + (3 * mi); omega, by show 320 + (3 * mi) < (2147483648 : Int); omega⟩ ?_
      refine w_ic ?_
      refine w_add ⟨by show (-2147483648 : Int) ≤ (320 + (3 * mi)) + 1; omega, by show (320 + (3 * mi)) + 1 < (2147483648 : Int); omega⟩ ?_
      refine w_aln rfl ?_
      refine w_gi hL.gm rfl (by decide) rfl (hC61.2.2.2.1.2.1) ?_
      refine w_iast hL.gs rfl (by decide) (by show (0 : Int) ≤ (320 + (3 * mi)) + 1; omega) (by show (320 + (3 * mi)) + 1 < ((537 : Nat) : Int); omega) ?_
      have hC62 := hC61.pB (k := mi.toNat) (v := O) hL (by show ((320 + (3 * mi)) + 1).toNat = 321 + 3 * mi.toNat; omega) (by show mi.toNat < 12; omega)
      refine w_aln rfl ?_
      refine w_gr hL.gm rfl (by decide) rfl (hC62.vr hL.m6) ?_
      refine w_sp ?_
      refine w_ic ?_
      refine w_iln rfl ?_
      refine w_mul ⟨by show (-2147483648 : Int) ≤ 3 * mi; omega, by show 3 * mi < (2147483648 : Int); omega⟩ ?_
      refine w_add ⟨by show (-2147483648 : Int) ≤ 320 + (3 * mi); omega, by show 320 + (3 * mi) < (2147483648 : Int); omega⟩ ?_
      refine w_ic ?_
      refine w_add ⟨by show (-2147483648 : Int) ≤ (320 + (3 * mi)) + 2; omega, by show (320 + (3 * mi)) + 2 < (2147483648 : Int); omega⟩ ?_
      refine w_aln rfl ?_
      refine w_gi hL.gm rfl (by decide) rfl (hC62.2.2.2.1.2.2) ?_
      refine w_iast hL.gs rfl (by decide) (by show (0 : Int) ≤ (320 + (3 * mi)) + 2; omega) (by show (320 + (3 * mi)) + 2 < ((537 : Nat) : Int); omega) ?_
      have hC63 := hC62.pC (k := mi.toNat) (v := P) hL (by show ((320 + (3 * mi)) + 2).toNat = 322 + 3 * mi.toNat; omega) (by show mi.toNat < 12; omega)
      refine w_ic ?_
      refine w_is ?_
      show wz _ _ _ _ [some (.inr (.inr (some m))), some (.inl x), some (.inl mi), some (.inl (ye_wy H g L)), some (.inl (ye_co H g A B mi.toNat L O)), some (.inl ((H (76 + mi.toNat)) + x)), some (.inl 0)] _ _ _ _ _
      refine h _ (yq_S.cg hC63 ?_ ?_)
      · unfold ye_g2; rw [if_pos (by omega)]
        refine ye_10 rfl rfl ?_ ?_ rfl rfl rfl rfl rfl rfl
        · exact (show g 224 + (P - ye_co H g A B mi.toNat L O) = g 224 + P - ye_co H g A B mi.toNat L O by omega)
        · exact (show (g 225) - (ye_wy H g L) = (if g 225 - ye_wy H g L < 0 then 0 else g 225 - ye_wy H g L) by split <;> omega)
      · unfold ye_R2; rw [if_pos (by omega)]; exact fun _ _ _ _ => rfl
      
theorem r_moR21 {G : mj_G} {M M0 : mj_M} {s m : Nat} {H : Nat → Int} {g A B C : Nat → Int} {R : Nat → Nat → Int} {L O P : Int} {Q : mj_P} {d : Nat} {y4 y5 y6 : Option mj_V} {x mi : Int} (hL : yq_L G M0 s m H) (hC : yq_S s m M0 g A B C R L O P M) {cb sb : Nat} (hH : ye_H H) (hx : 0 ≤ x ∧ x ≤ 99) (hm : g 222 = mi) (m0 : 0 ≤ mi ∧ mi ≤ 11) (lo : (L = 8 ∧ O = -1 ∧ P = 0) ∨ ((0 ≤ L ∧ L < H 0) ∧ (0 ≤ P ∧ P ≤ 999) ∧ (O = -1 ∨ ((0 ≤ O ∧ O < H 0) ∧ O ≠ L)))) (hr1 : ∀ t : Nat, t < 8 → ye_r1 H mi t ((t : Int) = L ∨ (t : Int) = O) (R t)) (k3 : g 223 = 8 ∨ (0 ≤ g 223 ∧ g 223 < H 0)) (b224 : -1000000 ≤ g 224 ∧ g 224 ≤ 1000000) (b226 : -1000000 ≤ g 226 ∧ g 226 ≤ 1000000) (b228 : -1000000 ≤ g 228 ∧ g 228 ≤ 1000000) (b229 : -1000000 ≤ g 229 ∧ g 229 ≤ 1000000) (b230 : -1000000 ≤ g 230 ∧ g 230 ≤ 1000000) (b231 : -1000000 ≤ g 231 ∧ g 231 ≤ 1000000) (b227 : -1000000 ≤ g 227 ∧ g 227 ≤ 1000000) (b225 : 0 ≤ g 225 ∧ g 225 ≤ 999) (s229 : 0 ≤ g 229 ∧ g 229 ≤ 500000) (h : ∀ M, (mi < 11 → yq_S s m M0 (rv_up (ye_g3 H (ye_ml H L O (ye_R2 H R L O (H (76 + mi.toNat) + x))) (ye_g2 H R (rv_up (ye_g1 H g A B mi.toNat L O P) 226 ((ye_g1 H g A B mi.toNat L O P) 226 + (H (76 + mi.toNat) + x))) L O (H (76 + mi.toNat) + x)) (H 0).toNat) 222 (mi + 1)) (rv_up A mi.toNat L) (rv_up B mi.toNat O) (rv_up C mi.toNat P) (ye_R3 H (ye_ml H L O (ye_R2 H R L O (H (76 + mi.toNat) + x))) (H 0).toNat) L O P M) → (mi = 11 → yq_S s m M0 (rv_up (ye_g3 H (ye_ml H L O (ye_R2 H R L O (H (76 + mi.toNat) + x))) (ye_g2 H R (rv_up (ye_g1 H g A B mi.toNat L O P) 226 ((ye_g1 H g A B mi.toNat L O P) 226 + (H (76 + mi.toNat) + x))) L O (H (76 + mi.toNat) + x)) (H 0).toNat) 222 (mi + 1)) (rv_up A mi.toNat L) (rv_up B mi.toNat O) (rv_up C mi.toNat P) (ye_R4 H (ye_R3 H (ye_ml H L O (ye_R2 H R L O (H (76 + mi.toNat) + x))) (H 0).toNat) (H 0).toNat) L O P M) → Q none G M) : wz (d + 3) mt_X12_month.2.2.2.2.1 Q (mt_X12_month.2.2.2.2.1.drop 21) [some (.inr (.inr (some m))), some (.inl x), some (.inl mi), some (.inl (ye_wy H g L)), y4, y5, y6] [] G M cb sb := by
  obtain ⟨h0, hm1, hm2, h3, hT, hw, hB, hd⟩ := id hH
  have hwm := hw mi.toNat (by omega)
  have hy : 0 ≤ ye_wy H g L ∧ ye_wy H g L ≤ 8 := by unfold ye_wy ye_pl; (repeat' split) <;> omega
  have bl := ye_br_b (A := A) (B := B) (m := mi.toNat) (k := L) hT (by omega)
  have bo := ye_br_b (A := A) (B := B) (m := mi.toNat) (k := O) hT (by omega)
  have hq := ye_mulb hm1.1 hm1.2 hy.1 hy.2
  have hc : 0 ≤ ye_co H g A B mi.toNat L O ∧ ye_co H g A B mi.toNat L O ≤ 5000 := by unfold ye_co; omega
  refine w_aln rfl ?_
  refine w_gr hL.gm rfl (by decide) rfl (hC.vr hL.m6) ?_
  refine w_ic ?_
  refine w_iald (v := (H 1)) hL.gs rfl (by show (0 : Int) ≤ 1; omega) (by show 1 < ((537 : Nat) : Int); omega) (hC.vn hL (by show (1 : Int).toNat = 1; omega) (by decide)) ?_
  refine w_iln rfl ?_
  refine w_mul ⟨by show (-2147483648 : Int) ≤ (H 1) * (ye_wy H g L); omega, by show (H 1) * (ye_wy H g L) < (2147483648 : Int); omega⟩ ?_
  refine w_is ?_
  show wz _ _ _ _ [some (.inr (.inr (some m))), some (.inl x), some (.inl mi), some (.inl (ye_wy H g L)), some (.inl ((H 1) * (ye_wy H g L))), y5, y6] _ _ _ _ _
  refine w_ic ?_
  refine w_is ?_
  show wz _ _ _ _ [some (.inr (.inr (some m))), some (.inl x), some (.inl mi), some (.inl (ye_wy H g L)), some (.inl ((H 1) * (ye_wy H g L))), some (.inl 0), y6] _ _ _ _ _
  refine r_brR (d := d) hL hC h0 hT hm m0 (by omega) (by omega) (by omega) (z := (H 1) * (ye_wy H g L)) rfl hq (H 0).toNat 0 _ _ _ (by omega) (by decide) (by unfold ye_cb; rw [if_neg (by omega), if_neg (by omega)]; omega) ?_
  refine r_moR3 (d := d) hL hC hT hm m0 hx hwm (by omega) (by omega) (by omega) (by omega) (by omega) b224 b226 b228 b229 b230 b231 b225 hy hc (fun t ht => ?_) (fun M4 hC4 => ?_)
  · have q := hr1 t ht
    have q5 := hT (5 + 9 * t) (by omega) (by omega)
    obtain ⟨a0, a1, a2, a3, a4, a5, a6, a7, a8, a9, a10⟩ := q
    exact ⟨by omega, by omega⟩
  have hr2 : ∀ t, t < 8 → ye_r2 H mi t ((ye_ml H L O (ye_R2 H R L O (H (76 + mi.toNat) + x))) t) := ye_ml_b hT h0 (by omega) (by omega) hr1
  have gg2 : ((ye_g2 H R (rv_up (ye_g1 H g A B mi.toNat L O P) 226 ((ye_g1 H g A B mi.toNat L O P) 226 + (H (76 + mi.toNat) + x))) L O (H (76 + mi.toNat) + x)) 227 = g 227 ∧ (-1000000 ≤ (ye_g2 H R (rv_up (ye_g1 H g A B mi.toNat L O P) 226 ((ye_g1 H g A B mi.toNat L O P) 226 + (H (76 + mi.toNat) + x))) L O (H (76 + mi.toNat) + x)) 229 ∧ (ye_g2 H R (rv_up (ye_g1 H g A B mi.toNat L O P) 226 ((ye_g1 H g A B mi.toNat L O P) 226 + (H (76 + mi.toNat) + x))) L O (H (76 + mi.toNat) + x)) 229 ≤ 1000000)) ∧ (ye_g2 H R (rv_up (ye_g1 H g A B mi.toNat L O P) 226 ((ye_g1 H g A B mi.toNat L O P) 226 + (H (76 + mi.toNat) + x))) L O (H (76 + mi.toNat) + x)) 222 = mi := by
    unfold ye_g2
    rcases lo with ⟨rfl, rfl, rfl⟩ | ⟨lo1, lo2, lo3⟩
    · rw [if_pos rfl]
      refine ⟨⟨rfl, ?_⟩, hm⟩
      rw [rv_up_s]
      rw [show rv_up (ye_g1 H g A B mi.toNat 8 (-1) 0) 226 (ye_g1 H g A B mi.toNat 8 (-1) 0 226 + (H (76 + mi.toNat) + x)) 229 = g 229 from rfl]
      omega
    · rw [if_neg (by omega)]
      have rl := hr1 L.toNat (by omega)
      rcases lo3 with lo3 | ⟨lo3, lo4⟩
      · rw [if_pos (by omega)]
        have b1 := ye_se_b (z := H (76 + mi.toNat) + x) hT lo1.1 (by omega) (by omega)
        have b2 := ye_in_b (R := R) (z := H (76 + mi.toNat) + x) hT lo1.1 (by omega) (by omega) rl.1.1 rl.1.2
        refine ⟨⟨rfl, ?_⟩, hm⟩
        unfold ye_c1
        rw [rv_up_s]
        rw [show ∀ a b : Int, rv_up (rv_up (ye_g1 H g A B mi.toNat L O P) 226 a) 230 b 229 = g 229 from fun _ _ => rfl]
        omega
      · rw [if_neg (by omega)]
        have ro := hr1 O.toNat (by omega)
        have e0 : ye_cR H R L ((H (76 + mi.toNat) + x) - (H (76 + mi.toNat) + x) / 2) O.toNat = R O.toNat := ye_ru_n (by omega)
        have b1 := ye_se_b (z := (H (76 + mi.toNat) + x) - (H (76 + mi.toNat) + x) / 2) hT lo1.1 (by omega) (by omega)
        have b2 := ye_in_b (R := R) (z := (H (76 + mi.toNat) + x) - (H (76 + mi.toNat) + x) / 2) hT lo1.1 (by omega) (by omega) rl.1.1 rl.1.2
        have b3 := ye_se_b (z := (H (76 + mi.toNat) + x) / 2) hT lo3.1 (by omega) (by omega)
        have b4 := ye_in_b (R := ye_cR H R L ((H (76 + mi.toNat) + x) - (H (76 + mi.toNat) + x) / 2)) (z := (H (76 + mi.toNat) + x) / 2) hT lo3.1 (by omega) (by omega) (by rw [e0]; exact ro.1.1) (by rw [e0]; exact ro.1.2)
        refine ⟨⟨rfl, ?_⟩, hm⟩
        unfold ye_c1
        rw [rv_up_s]
        rw [show ∀ a b c e : Int, rv_up (rv_up (rv_up (rv_up (ye_g1 H g A B mi.toNat L O P) 226 a) 230 b) 228 c) 229 e 229 = e from fun _ _ _ _ => rv_up_s]
        rw [show ∀ a b : Int, rv_up (rv_up (ye_g1 H g A B mi.toNat L O P) 226 a) 230 b 229 = g 229 from fun _ _ => rfl]
        omega
  refine r_usR (d := d) hL h0 hT h3 m0 (by omega) (by omega) hr2 (fun t ht => ?_) (by rw [gg2.1.1]; omega) gg2.1.2 (H 0).toNat 0 _ _ _ (by omega) (by decide) (hC4.cg ?_ ?_) (fun M5 hC5 => ?_)
  · have q14 : ye_R2 H R L O (H (76 + mi.toNat) + x) t 1 = R t 1 ∧ ye_R2 H R L O (H (76 + mi.toNat) + x) t 4 = R t 4 := by
      have pc : ∀ (R2 : Nat → Nat → Int) (k z2 : Int), ye_cR H R2 k z2 t 1 = R2 t 1 ∧ ye_cR H R2 k z2 t 4 = R2 t 4 := fun R2 k z2 => by
        unfold ye_cR
        by_cases e : t = k.toNat
        · subst e; rw [ye_ru_s]; exact ⟨rfl, rfl⟩
        · rw [ye_ru_n e]; exact ⟨rfl, rfl⟩
      unfold ye_R2
      by_cases c8 : L = 8
      · rw [if_pos c8]; exact ⟨rfl, rfl⟩
      · rw [if_neg c8]
        by_cases cO : O < 0
        · rw [if_pos cO]; exact pc _ _ _
        · rw [if_neg cO]; exact ⟨(pc _ _ _).1.trans (pc _ _ _).1, (pc _ _ _).2.trans (pc _ _ _).2⟩
    have q := hr1 t ht
    obtain ⟨a0, a1, a2, a3, a4, a5, a6, a7, a8, a9, a10⟩ := q
    rw [q14.1, q14.2]
    exact ⟨by omega, by omega⟩
  · exact ye_10 rfl rfl rfl rfl rfl ((Int.add_zero _).symm.trans rfl) rfl ((Int.add_zero _).symm.trans rfl) rfl rfl
  · rw [show (0 : Int).toNat = 0 from rfl, ye_Rq_0]; exact fun _ _ _ _ => rfl
  have hm7 : ye_g3 H (ye_ml H L O (ye_R2 H R L O (H (76 + mi.toNat) + x))) (ye_g2 H R (rv_up (ye_g1 H g A B mi.toNat L O P) 226 ((ye_g1 H g A B mi.toNat L O P) 226 + (H (76 + mi.toNat) + x))) L O (H (76 + mi.toNat) + x)) (H 0).toNat 222 = mi := gg2.2
  have hC6 := hC5.cg (fun _ _ _ => rfl) (ye_Rq_n (R := ye_R2 H R L O (H (76 + mi.toNat) + x)) h0 (by omega) (by omega))
  refine w_aln rfl ?_
  refine w_gr hL.gm rfl (by decide) rfl (hC6.vr hL.m6) ?_
  refine w_sp ?_
  refine w_dup2 ?_
  refine w_iald (v := mi) hL.gs rfl (by show (0 : Int) ≤ 222; omega) (by show 222 < ((537 : Nat) : Int); omega) ((hC6.vg (k := 222) (by decide) (by decide)).trans hm7) ?_
  refine w_ic ?_
  refine w_add ⟨by show (-2147483648 : Int) ≤ mi + 1; omega, by show mi + 1 < (2147483648 : Int); omega⟩ ?_
  refine w_iast hL.gs rfl (by decide) (by show (0 : Int) ≤ 222; omega) (by show 222 < ((537 : Nat) : Int); omega) ?_
  have hC1 := hC6.pg (k := 222) (v := mi + 1) hL (by decide) (by decide) (by show (222 : Int).toNat = 222; omega)
  refine w_aln rfl ?_
  refine w_gr hL.gm rfl (by decide) rfl (hC1.vr hL.m6) ?_
  refine w_sp ?_
  refine w_iald (v := mi + 1) hL.gs rfl (by show (0 : Int) ≤ 222; omega) (by show 222 < ((537 : Nat) : Int); omega) ((hC1.vg (k := 222) (by decide) (by decide)).trans (rv_up_s)) ?_
  refine w_bp ?_
  refine w_cmge (fun c2 => ?_) (fun c2 => ?_)
  · skip
    refine w_ic ?_
    refine w_is ?_
    show wz _ _ _ _ [some (.inr (.inr (some m))), some (.inl x), some (.inl mi), some (.inl (ye_wy H g L)), some (.inl (ye_co H g A B mi.toNat L O)), some (.inl (H (76 + mi.toNat) + x)), some (.inl 0)] _ _ _ _ _
    have hr3 : ∀ t, t < 8 → ye_r3 H mi t (ye_dk H t ((ye_ml H L O (ye_R2 H R L O (H (76 + mi.toNat) + x))) t)) := fun t ht => (ye_dk_b hT h3.1 ht (hr2 t ht)).1
    have hr4 : ∀ t, t < 8 → (0 ≤ ye_R3 H (ye_ml H L O (ye_R2 H R L O (H (76 + mi.toNat) + x))) (H 0).toNat t 8 ∧ ye_R3 H (ye_ml H L O (ye_R2 H R L O (H (76 + mi.toNat) + x))) (H 0).toNat t 8 ≤ 12) ∧ (0 ≤ ye_R3 H (ye_ml H L O (ye_R2 H R L O (H (76 + mi.toNat) + x))) (H 0).toNat t 9 ∧ ye_R3 H (ye_ml H L O (ye_R2 H R L O (H (76 + mi.toNat) + x))) (H 0).toNat t 9 ≤ 12000) ∧ (0 ≤ ye_R3 H (ye_ml H L O (ye_R2 H R L O (H (76 + mi.toNat) + x))) (H 0).toNat t 1 ∧ ye_R3 H (ye_ml H L O (ye_R2 H R L O (H (76 + mi.toNat) + x))) (H 0).toNat t 1 ≤ 1000000) := fun t ht => by
      unfold ye_R3
      by_cases c : t < (H 0).toNat
      · rw [if_pos c]
        obtain ⟨a0, a1, a2, a3, a4, a5, a6, a7, a8, a9, a10⟩ := hr3 t ht
        exact ⟨by omega, ⟨a9.1, a9.2.1⟩, by omega⟩
      · rw [if_neg c]
        obtain ⟨a0, a1, a2, a3, a4, a5, a6, a7, a8, a9, a10⟩ := hr2 t ht
        exact ⟨by omega, ⟨a9.1, a9.2.1⟩, by omega⟩
    exact r_hvR (d := d) hL h0 hT (fun t ht => (hr4 t ht).1) (fun t ht => (hr4 t ht).2.1) (fun t ht => (hr4 t ht).2.2) (H 0).toNat 0 _ _ _ (by omega) (by decide) (by rw [show (0 : Int).toNat = 0 from rfl, ye_R4_0]; exact hC1) (fun M9 hC9 => h _ (fun q => absurd q (by omega)) (fun _ => hC9))
  · skip
    exact w_ret (h _ (fun _ => hC1) (fun q => absurd q (by omega)))
theorem r_X12_month {G : mj_G} {M M0 : mj_M} {s m : Nat} {H : Nat → Int} {g A B C : Nat → Int} {R : Nat → Nat → Int} {L0 O0 P0 : Int} {Q : mj_P} {d : Nat} (hL : yq_L G M0 s m H) {mi x : Int} (hC : yq_S s m M0 g A B C R L0 O0 P0 M) (hm : g 222 = mi) (m0 : 0 ≤ mi ∧ mi ≤ 11) (hH : ye_H H) (hk : ye_ok H g A B C R) (hx : 0 ≤ x ∧ x ≤ 99) (h : ∀ L O P M, (L, O, P) = ye_le H R mi.toNat → yq_S s m M0 (ye_mg H x g R A B) (rv_up A mi.toNat L) (rv_up B mi.toNat O) (rv_up C mi.toNat P) (ye_mR H x g R) L O P M → Q none G M) : mj_R mj_tab (d + 4) 213 [.inr (.inr (some m)), .inl x] G M Q := by
  obtain ⟨h0, hm1, hm2, h3, hT, hw, hB, hd⟩ := id hH
  obtain ⟨k2, k3, k4, k5, k6, k7, k8, k9, k10, k11, kR, kz, kl⟩ := id hk
  rw [hm] at k4 k6 k7 k8 k9 k10 k11 kR
  have hlt := ye_le_b (R := R) hH (show mi.toNat < 12 by omega)
  revert hlt h
  rcases hle : ye_le H R mi.toNat with ⟨L, O, P⟩
  intro h hlt
  have ym := ye_mR_e (x := x) hm hle
  have yg := ye_mg_e (x := x) (A := A) (B := B) hm hle
  replace hlt : ye_lt H R L O P := hlt
  have hr1 := ye_R1_b kR h0 hlt
  have lo : (L = 8 ∧ O = -1 ∧ P = 0) ∨ ((0 ≤ L ∧ L < H 0) ∧ (0 ≤ P ∧ P ≤ 999) ∧ (O = -1 ∨ ((0 ≤ O ∧ O < H 0) ∧ O ≠ L))) := by
    rcases hlt with q | ⟨q1, q2, -, q3⟩
    · exact Or.inl q
    · exact Or.inr ⟨q1, q2, q3.imp (fun z => z.1) (fun z => ⟨z.1, z.2.1⟩)⟩
  have dj := hd mi.toNat (by omega)
  have hwm := hw mi.toNat (by omega)
  have hrb : ∀ t, t < 8 → (-1000000 ≤ R t 1 ∧ R t 1 ≤ 1000000) ∧ (-1000000 ≤ R t 5 ∧ R t 5 ≤ 1000000) := fun t ht => by
    obtain ⟨-, a1, -, -, -, a5, -⟩ := kR t ht
    omega
  have hbm : ∀ t, t < 8 → 0 ≤ H (88 + 12 * t + mi.toNat) ∧ H (88 + 12 * t + mi.toNat) ≤ 999 := fun t ht => hB t _ ht (by omega)
  refine ⟨Nat.le_of_ble_eq_true rfl, ?_⟩
  show wz (d + 3) mt_X12_month.2.2.2.2.1 _ mt_X12_month.2.2.2.2.1 [some (.inr (.inr (some m))), some (.inl x), none, none, none, none, none] [] G M _ _
  refine w_aln rfl ?_
  refine w_gr hL.gm rfl (by decide) rfl (hC.vr hL.m6) ?_
  refine w_sp ?_
  refine w_iald (v := mi) hL.gs rfl (by show (0 : Int) ≤ 222; omega) (by show 222 < ((537 : Nat) : Int); omega) ((hC.vg (k := 222) (by decide) (by decide)).trans hm) ?_
  refine w_isn ?_
  show wz _ _ _ _ [some (.inr (.inr (some m))), some (.inl x), some (.inl mi), none, none, none, none] _ _ _ _ _
  refine w_aln rfl ?_
  refine w_iln rfl ?_
  refine w_cv (st := []) rfl hL.gm rfl (Nat.le_of_ble_eq_true rfl) (fun kk h => h) (r_X12_lets (d := d) hL hC hm m0 (by omega) (by omega) (by omega) (fun q => by omega) h0 hbm hrb ?_)
  rw [hle]
  intro M1 hC1
  replace hC1 : yq_S s m M0 g A B C (ye_R1 R L O P) L O P M1 := hC1
  refine w_aln rfl ?_
  refine w_aln rfl ?_
  refine w_gi hL.gm rfl (by decide) rfl (hC1.2.2.2.1.1) ?_
  refine w_cv (st := []) rfl hL.gm rfl (Nat.le_of_ble_eq_true rfl) (fun kk h => h) ⟨Nat.le_of_ble_eq_true rfl, ?_⟩
  show wz (d + 2) mt_X12_placeOf.2.2.2.2.1 _ mt_X12_placeOf.2.2.2.2.1 [some (.inr (.inr (some m))), some (.inl L)] [] _ _ _ _
  refine w_iln rfl ?_
  refine w_bp ?_
  refine w_cmne (fun c1 => ?_) (fun c1 => ?_)
  · skip
    refine w_iln rfl ?_
    refine w_iret (fun q => by cases q) ?_
    refine w_aln rfl ?_
    refine w_aln rfl ?_
    refine w_gr hL.gm rfl (by decide) rfl (hC1.vr hL.m6) ?_
    refine w_sp ?_
    refine w_iald (v := (g 223)) hL.gs rfl (by show (0 : Int) ≤ 223; omega) (by show 223 < ((537 : Nat) : Int); omega) (hC1.vg (k := 223) (by decide) (by decide)) ?_
    refine w_cv (st := [.inl L]) rfl hL.gm rfl (Nat.le_of_ble_eq_true rfl) (fun kk h => h) ⟨Nat.le_of_ble_eq_true rfl, ?_⟩
    show wz (d + 2) mt_X12_placeOf.2.2.2.2.1 _ mt_X12_placeOf.2.2.2.2.1 [some (.inr (.inr (some m))), some (.inl (g 223))] [] _ _ _ _
    refine w_iln rfl ?_
    refine w_bp ?_
    refine w_cmne (fun c2 => ?_) (fun c2 => ?_)
    · skip
      refine w_iln rfl ?_
      refine w_iret (fun q => by cases q) ?_
      refine w_sub ⟨by show (-2147483648 : Int) ≤ L - (g 223); omega, by show L - (g 223) < (2147483648 : Int); omega⟩ ?_
      refine w_cs (st := []) rfl (Nat.le_of_ble_eq_true rfl) (fun kk h => h) ⟨Nat.le_of_ble_eq_true rfl, ?_⟩
      show wz (d + 2) mt_X12_sizeOf.2.2.2.2.1 _ mt_X12_sizeOf.2.2.2.2.1 [some (.inl (L - (g 223)))] [] _ _ _ _
      refine w_iln rfl ?_
      refine w_ifge (fun c3 => ?_) (fun c3 => ?_)
      · skip
        refine w_iln rfl ?_
        refine w_iret (fun q => by cases q) ?_
        refine w_isn ?_
        show wz _ _ _ _ [some (.inr (.inr (some m))), some (.inl x), some (.inl mi), some (.inl (L - (g 223))), none, none, none] _ _ _ _ _
        rw [show L - (g 223) = ye_wy H g L from by unfold ye_wy ye_pl; (repeat' split) <;> omega]
        refine r_moR21 (d := d) hL hC1 hH hx hm m0 lo hr1 k3 (by omega) (by omega) (by omega) (by omega) (by omega) (by omega) (by omega) k5 (by omega) (fun M9 q1 q2 => h L O P M9 rfl ?_)
        rw [ym, yg]
        by_cases c11 : mi = 11
        · rw [if_pos c11]; exact q2 c11
        · rw [if_neg c11]; exact q1 (by omega)
      · skip
        refine w_iln rfl ?_
        refine w_neg ⟨by show (-2147483648 : Int) ≤ L - (g 223); omega, by show L - (g 223) < (2147483648 : Int); omega⟩ (by omega) ?_
        refine w_goto ?_
        refine w_iret (fun q => by cases q) ?_
        refine w_isn ?_
        show wz _ _ _ _ [some (.inr (.inr (some m))), some (.inl x), some (.inl mi), some (.inl (-(L - (g 223)))), none, none, none] _ _ _ _ _
        rw [show (-(L - (g 223))) = ye_wy H g L from by unfold ye_wy ye_pl; (repeat' split) <;> omega]
        refine r_moR21 (d := d) hL hC1 hH hx hm m0 lo hr1 k3 (by omega) (by omega) (by omega) (by omega) (by omega) (by omega) (by omega) k5 (by omega) (fun M9 q1 q2 => h L O P M9 rfl ?_)
        rw [ym, yg]
        by_cases c11 : mi = 11
        · rw [if_pos c11]; exact q2 c11
        · rw [if_neg c11]; exact q1 (by omega)
    · skip
      refine w_aln rfl ?_
      refine w_gr hL.gm rfl (by decide) rfl (hC1.vr hL.m6) ?_
      refine w_ic ?_
      refine w_iald (v := (H 0)) hL.gs rfl (by show (0 : Int) ≤ 0; omega) (by show 0 < ((537 : Nat) : Int); omega) (hC1.vn hL (by show (0 : Int).toNat = 0; omega) (by decide)) ?_
      refine w_goto ?_
      refine w_iret (fun q => by cases q) ?_
      refine w_sub ⟨by show (-2147483648 : Int) ≤ L - (H 0); omega, by show L - (H 0) < (2147483648 : Int); omega⟩ ?_
      refine w_cs (st := []) rfl (Nat.le_of_ble_eq_true rfl) (fun kk h => h) ⟨Nat.le_of_ble_eq_true rfl, ?_⟩
      show wz (d + 2) mt_X12_sizeOf.2.2.2.2.1 _ mt_X12_sizeOf.2.2.2.2.1 [some (.inl (L - (H 0)))] [] _ _ _ _
      refine w_iln rfl ?_
      refine w_ifge (fun c4 => ?_) (fun c4 => ?_)
      · exfalso; omega
      · skip
        refine w_iln rfl ?_
        refine w_neg ⟨by show (-2147483648 : Int) ≤ L - (H 0); omega, by show L - (H 0) < (2147483648 : Int); omega⟩ (by omega) ?_
        refine w_goto ?_
        refine w_iret (fun q => by cases q) ?_
        refine w_isn ?_
        show wz _ _ _ _ [some (.inr (.inr (some m))), some (.inl x), some (.inl mi), some (.inl (-(L - (H 0)))), none, none, none] _ _ _ _ _
        rw [show (-(L - (H 0))) = ye_wy H g L from by unfold ye_wy ye_pl; (repeat' split) <;> omega]
        refine r_moR21 (d := d) hL hC1 hH hx hm m0 lo hr1 k3 (by omega) (by omega) (by omega) (by omega) (by omega) (by omega) (by omega) k5 (by omega) (fun M9 q1 q2 => h L O P M9 rfl ?_)
        rw [ym, yg]
        by_cases c11 : mi = 11
        · rw [if_pos c11]; exact q2 c11
        · rw [if_neg c11]; exact q1 (by omega)
  · skip
    refine w_aln rfl ?_
    refine w_gr hL.gm rfl (by decide) rfl (hC1.vr hL.m6) ?_
    refine w_ic ?_
    refine w_iald (v := (H 0)) hL.gs rfl (by show (0 : Int) ≤ 0; omega) (by show 0 < ((537 : Nat) : Int); omega) (hC1.vn hL (by show (0 : Int).toNat = 0; omega) (by decide)) ?_
    refine w_goto ?_
    refine w_iret (fun q => by cases q) ?_
    refine w_aln rfl ?_
    refine w_aln rfl ?_
    refine w_gr hL.gm rfl (by decide) rfl (hC1.vr hL.m6) ?_
    refine w_sp ?_
    refine w_iald (v := (g 223)) hL.gs rfl (by show (0 : Int) ≤ 223; omega) (by show 223 < ((537 : Nat) : Int); omega) (hC1.vg (k := 223) (by decide) (by decide)) ?_
    refine w_cv (st := [.inl (H 0)]) rfl hL.gm rfl (Nat.le_of_ble_eq_true rfl) (fun kk h => h) ⟨Nat.le_of_ble_eq_true rfl, ?_⟩
    show wz (d + 2) mt_X12_placeOf.2.2.2.2.1 _ mt_X12_placeOf.2.2.2.2.1 [some (.inr (.inr (some m))), some (.inl (g 223))] [] _ _ _ _
    refine w_iln rfl ?_
    refine w_bp ?_
    refine w_cmne (fun c5 => ?_) (fun c5 => ?_)
    · skip
      refine w_iln rfl ?_
      refine w_iret (fun q => by cases q) ?_
      refine w_sub ⟨by show (-2147483648 : Int) ≤ (H 0) - (g 223); omega, by show (H 0) - (g 223) < (2147483648 : Int); omega⟩ ?_
      refine w_cs (st := []) rfl (Nat.le_of_ble_eq_true rfl) (fun kk h => h) ⟨Nat.le_of_ble_eq_true rfl, ?_⟩
      show wz (d + 2) mt_X12_sizeOf.2.2.2.2.1 _ mt_X12_sizeOf.2.2.2.2.1 [some (.inl ((H 0) - (g 223)))] [] _ _ _ _
      refine w_iln rfl ?_
      refine w_ifge (fun c6 => ?_) (fun c6 => ?_)
      · skip
        refine w_iln rfl ?_
        refine w_iret (fun q => by cases q) ?_
        refine w_isn ?_
        show wz _ _ _ _ [some (.inr (.inr (some m))), some (.inl x), some (.inl mi), some (.inl ((H 0) - (g 223))), none, none, none] _ _ _ _ _
        rw [show (H 0) - (g 223) = ye_wy H g L from by unfold ye_wy ye_pl; (repeat' split) <;> omega]
        refine r_moR21 (d := d) hL hC1 hH hx hm m0 lo hr1 k3 (by omega) (by omega) (by omega) (by omega) (by omega) (by omega) (by omega) k5 (by omega) (fun M9 q1 q2 => h L O P M9 rfl ?_)
        rw [ym, yg]
        by_cases c11 : mi = 11
        · rw [if_pos c11]; exact q2 c11
        · rw [if_neg c11]; exact q1 (by omega)
      · exfalso; omega
    · skip
      refine w_aln rfl ?_
      refine w_gr hL.gm rfl (by decide) rfl (hC1.vr hL.m6) ?_
      refine w_ic ?_
      refine w_iald (v := (H 0)) hL.gs rfl (by show (0 : Int) ≤ 0; omega) (by show 0 < ((537 : Nat) : Int); omega) (hC1.vn hL (by show (0 : Int).toNat = 0; omega) (by decide)) ?_
      refine w_goto ?_
      refine w_iret (fun q => by cases q) ?_
      refine w_sub ⟨by show (-2147483648 : Int) ≤ (H 0) - (H 0); omega, by show (H 0) - (H 0) < (2147483648 : Int); omega⟩ ?_
      refine w_cs (st := []) rfl (Nat.le_of_ble_eq_true rfl) (fun kk h => h) ⟨Nat.le_of_ble_eq_true rfl, ?_⟩
      show wz (d + 2) mt_X12_sizeOf.2.2.2.2.1 _ mt_X12_sizeOf.2.2.2.2.1 [some (.inl ((H 0) - (H 0)))] [] _ _ _ _
      refine w_iln rfl ?_
      refine w_ifge (fun c7 => ?_) (fun c7 => ?_)
      · skip
        refine w_iln rfl ?_
        refine w_iret (fun q => by cases q) ?_
        refine w_isn ?_
        show wz _ _ _ _ [some (.inr (.inr (some m))), some (.inl x), some (.inl mi), some (.inl ((H 0) - (H 0))), none, none, none] _ _ _ _ _
        rw [show (H 0) - (H 0) = ye_wy H g L from by unfold ye_wy ye_pl; (repeat' split) <;> omega]
        refine r_moR21 (d := d) hL hC1 hH hx hm m0 lo hr1 k3 (by omega) (by omega) (by omega) (by omega) (by omega) (by omega) (by omega) k5 (by omega) (fun M9 q1 q2 => h L O P M9 rfl ?_)
        rw [ym, yg]
        by_cases c11 : mi = 11
        · rw [if_pos c11]; exact q2 c11
        · rw [if_neg c11]; exact q1 (by omega)
      · exfalso; omega
end
section
/-! ===== a YEAR begins, goes on (laid by a program) ===== -/
section YG
variable {G : mj_G} {M M0 : mj_M} {u : Nat → Nat} {y la lb lc oa pl ta ba wa dl fa sa ca : Nat} {yr tr br : Nat → Nat} {H : Nat → Int} {M1 : mj_M}
theorem yc_L.mv (h : yc_L G M0 u y la lb lc oa yr pl ta ba wa tr br dl fa sa ca H) (e2 : M1.2 = M0.2) (e1 : ∀ a t n, G a = (t, n) → (t = 1004 ∨ t = 26100 ∨ t = 28100 ∨ t = 29100 ∨ t = 16100 ∨ t = 17100 ∨ t = 18100) → M1.1 a = M0.1 a) : yc_L G M1 u y la lb lc oa yr pl ta ba wa tr br dl fa sa ca H := ⟨h.hu, h.gy, h.gla, h.glb, h.glc, h.goa, h.gyr, h.iyr, h.gpl, h.gta, h.gba, h.gwa, h.gtr, h.gbr, h.gdl, h.gfa, h.gsa, h.gca, by rw [e2]; exact h.y3, by rw [e2]; exact h.y4, by rw [e2]; exact h.y5, by rw [e2]; exact h.y6, fun t ht => by rw [e2]; exact h.ot t ht, by rw [e2]; exact h.p1, by rw [e2]; exact h.p2, by rw [e2]; exact h.p3, fun t ht => by rw [e2]; exact h.tt t ht, fun t ht => by rw [e2]; exact h.bt t ht, by rw [e2]; exact h.d0, by rw [e2]; exact h.d1, by rw [e2]; exact h.d2, (congrFun (e1 _ _ _ h.gpl (by decide)) 4).trans h.n4, (congrFun (e1 _ _ _ h.gpl (by decide)) 6).trans h.n6, (congrFun (e1 _ _ _ h.gpl (by decide)) 7).trans h.n7, (congrFun (e1 _ _ _ h.gpl (by decide)) 8).trans h.n8, fun t v ht hv => (congrFun (e1 _ _ _ (h.gtr t ht) (by decide)) v).trans (h.nt t v ht hv), fun v hv => (congrFun (e1 _ _ _ h.gwa (by decide)) v).trans (h.nw v hv), fun t v ht hv => (congrFun (e1 _ _ _ (h.gbr t ht) (by decide)) v).trans (h.nb t v ht hv), fun v hv => (congrFun (e1 _ _ _ h.gfa (by decide)) v).trans (h.nf v hv), fun v hv => (congrFun (e1 _ _ _ h.gsa (by decide)) v).trans (h.ns v hv), fun v hv => (congrFun (e1 _ _ _ h.gca (by decide)) v).trans (h.nc v hv)⟩
theorem yc_S.re : yc_S y la lb lc yr M (fun j => M.1 y (ye_f j)) (M.1 la) (M.1 lb) (M.1 lc) (fun t => M.1 (yr t)) M := ⟨rfl, fun _ _ _ _ _ _ => rfl, rfl, fun _ _ _ => rfl, fun _ _ => rfl, fun _ _ => rfl, fun _ _ => rfl, fun _ _ _ _ => rfl⟩
end YG
/-- a YEAR's numbers and rows as it begins -/
def ye_z0 (H : Nat → Int) : Nat → Int := fun j => if j = 223 then 8 else if j = 225 then H 2 else 0
def ye_zR (H : Nat → Int) : Nat → Nat → Int := fun t w => if w = 1 ∧ t < 8 then H (7 + 9 * t) else 0
theorem r_stI {G : mj_G} {M0 : mj_M} {u : Nat → Nat} {y la lb lc oa pl ta ba wa dl fa sa ca : Nat} {yr tr br : Nat → Nat} {H : Nat → Int} {g A B C : Nat → Int} {R : Nat → Nat → Int} {Q : mj_P} {d : Nat} (hL : yc_L G M0 u y la lb lc oa yr pl ta ba wa tr br dl fa sa ca H) {i : Int} (hi : 0 ≤ i ∧ i ≤ 7) : ∀ (n : Nat) (w : Int) (r : Nat → Int) (M : mj_M) (cb sb : Nat), w + n = 11 → 0 ≤ w → yc_S y la lb lc yr M0 g A B C (ye_ru R i.toNat r) M → (∀ j : Nat, j < 11 → (j : Int) < w → r j = 0) → (∀ r M, yc_S y la lb lc yr M0 g A B C (ye_ru R i.toNat r) M → (∀ j, j < 11 → r j = 0) → wz d mt_X10_start.2.2.2.2.1 Q (mt_X10_start.2.2.2.2.1.drop 53) [some (.inr (.inr (some y))), some (.inr (.inr (some pl))), some (.inl i), some (.inl 11)] [] G M cb sb) → wz d mt_X10_start.2.2.2.2.1 Q (mt_X10_start.2.2.2.2.1.drop 41) [some (.inr (.inr (some y))), some (.inr (.inr (some pl))), some (.inl i), some (.inl w)] [] G M cb sb := by
  intro n
  induction n with
  | zero =>
    intro w r M cb sb e w0 hC hz h
    obtain rfl : w = 11 := by omega
    refine w_iln rfl ?_
    refine w_bp ?_
    refine w_cmge (fun c1 => ?_) (fun c1 => ?_)
    · skip
      exact h _ _ hC (fun j hj => hz j hj (by omega))
    · exfalso; omega
  | succ n ih =>
    intro w r M cb sb e w0 hC hz h
    refine w_iln rfl ?_
    refine w_bp ?_
    refine w_cmge (fun c1 => ?_) (fun c1 => ?_)
    · exfalso; omega
    · skip
      refine w_aln rfl ?_
      refine w_gr hL.gy hL.hu.2.1 (by decide) rfl (hC.rf hL.y6) ?_
      refine w_iln rfl ?_
      refine w_aald hL.goa hL.hu.2.2.2.2.2.2.1 (by show (0 : Int) ≤ i; omega) (by show i < ((8 : Nat) : Int); omega) (hC.rf (hL.ot _ (by show i.toNat < 8; omega))) ?_
      refine w_iln rfl ?_
      refine w_ic ?_
      refine w_iast (hL.gyr _ (by show i.toNat < 8; omega)) hL.hu.2.2.2.2.2.1 (hL.hu.1 5 (by decide)) (by show (0 : Int) ≤ w; omega) (by show w < ((11 : Nat) : Int); omega) ?_
      have hC2 := hC.pr (w := w.toNat) (v := 0) hL (by show i.toNat < 8; omega)
      refine w_ii rfl ⟨by show (-2147483648 : Int) ≤ w + 1; omega, by show w + 1 < (2147483648 : Int); omega⟩ ?_
      show wz _ _ _ _ [some (.inr (.inr (some y))), some (.inr (.inr (some pl))), some (.inl i), some (.inl (w + 1))] _ _ _ _ _
      refine w_goto ?_
      refine ih (w + 1) _ _ _ _ (by omega) (by omega) hC2 (fun j hj hjw => ?_) h
      by_cases e9 : j = w.toNat
      · rw [e9, rv_up_s]
      · rw [rv_up_n e9]; exact hz j hj (by omega)
theorem r_stO {G : mj_G} {M0 : mj_M} {u : Nat → Nat} {y la lb lc oa pl ta ba wa dl fa sa ca : Nat} {yr tr br : Nat → Nat} {H : Nat → Int} {g A B C : Nat → Int} {Q : mj_P} {d : Nat} (hL : yc_L G M0 u y la lb lc oa yr pl ta ba wa tr br dl fa sa ca H) : ∀ (n : Nat) (i : Int) (z : Option mj_V) (R : Nat → Nat → Int) (M : mj_M) (cb sb : Nat), i + n = 8 → 0 ≤ i → yc_S y la lb lc yr M0 g A B C R M → (∀ s : Nat, s < 8 → (s : Int) < i → ∀ w, w < 11 → R s w = ye_zR H s w) → (∀ M, yc_S y la lb lc yr M0 g A B C (ye_zR H) M → Q none G M) → wz d mt_X10_start.2.2.2.2.1 Q (mt_X10_start.2.2.2.2.1.drop 36) [some (.inr (.inr (some y))), some (.inr (.inr (some pl))), some (.inl i), z] [] G M cb sb := by
  intro n
  induction n with
  | zero =>
    intro i z R M cb sb e i0 hC hz h
    obtain rfl : i = 8 := by omega
    refine w_iln rfl ?_
    refine w_bp ?_
    refine w_cmge (fun c1 => ?_) (fun c1 => ?_)
    · skip
      exact w_ret (h _ (hC.cg (fun _ _ _ => rfl) (fun t w ht hw => hz t ht (by omega) w hw)))
    · exfalso; omega
  | succ n ih =>
    intro i z R M cb sb e i0 hC hz h
    refine w_iln rfl ?_
    refine w_bp ?_
    refine w_cmge (fun c1 => ?_) (fun c1 => ?_)
    · exfalso; omega
    · skip
      refine w_ic ?_
      refine w_isn ?_
      show wz _ _ _ _ [some (.inr (.inr (some y))), some (.inr (.inr (some pl))), some (.inl i), some (.inl 0)] _ _ _ _ _
      refine r_stI (d := d) hL (by omega) 11 0 _ _ _ _ (by decide) (by decide) (hC.op i.toNat) (fun j _ q => by omega) (fun r1 M1 hC1 hz1 => ?_)
      refine w_aln rfl ?_
      refine w_gr hL.gy hL.hu.2.1 (by decide) rfl (hC1.rf hL.y6) ?_
      refine w_iln rfl ?_
      refine w_aald hL.goa hL.hu.2.2.2.2.2.2.1 (by show (0 : Int) ≤ i; omega) (by show i < ((8 : Nat) : Int); omega) (hC1.rf (hL.ot _ (by show i.toNat < 8; omega))) ?_
      refine w_ic ?_
      refine w_aln rfl ?_
      refine w_gr hL.gpl rfl (by decide) rfl (hC1.rf hL.p1) ?_
      refine w_iln rfl ?_
      refine w_aald hL.gta rfl (by show (0 : Int) ≤ i; omega) (by show i < ((8 : Nat) : Int); omega) (hC1.rf (hL.tt _ (by show i.toNat < 8; omega))) ?_
      refine w_ic ?_
      refine w_iald (v := (H (7 + 9 * i.toNat))) (hL.gtr _ (by show i.toNat < 8; omega)) rfl (by show (0 : Int) ≤ 3; omega) (by show 3 < ((9 : Nat) : Int); omega) (((congrFun (hC1.oo hL (hL.gtr _ (by show i.toNat < 8; omega)) (by decide)) _).trans (hL.nt _ 3 (by show i.toNat < 8; omega) (by decide))).trans (congrArg H (show 4 + 9 * i.toNat + 3 = 7 + 9 * i.toNat by omega))) ?_
      refine w_iast (hL.gyr _ (by show i.toNat < 8; omega)) hL.hu.2.2.2.2.2.1 (hL.hu.1 5 (by decide)) (by show (0 : Int) ≤ 1; omega) (by show 1 < ((11 : Nat) : Int); omega) ?_
      have hC2 := hC1.pr (w := (1 : Int).toNat) (v := (H (7 + 9 * i.toNat))) hL (by show i.toNat < 8; omega)
      refine w_ii rfl ⟨by show (-2147483648 : Int) ≤ i + 1; omega, by show i + 1 < (2147483648 : Int); omega⟩ ?_
      show wz _ _ _ _ [some (.inr (.inr (some y))), some (.inr (.inr (some pl))), some (.inl (i + 1)), some (.inl 11)] _ _ _ _ _
      refine w_goto ?_
      refine ih (i + 1) _ _ _ _ _ (by omega) (by omega) hC2 (fun s hs hsi w hw => ?_) h
      by_cases e9 : s = i.toNat
      · subst e9
        rw [ye_ru_s]
        by_cases e8 : w = 1
        · subst e8; exact rv_up_s.trans (if_pos ⟨rfl, hs⟩).symm
        · refine (rv_up_n e8).trans ((hz1 w hw).trans ?_); unfold ye_zR; rw [if_neg (fun q => e8 q.1)]
      · rw [ye_ru_n e9]; exact hz s hs (by omega) w hw
theorem r_X10_start {G : mj_G} {M0 : mj_M} {u : Nat → Nat} {y la lb lc oa pl ta ba wa dl fa sa ca : Nat} {yr tr br : Nat → Nat} {H : Nat → Int} {Q : mj_P} {d : Nat} (hL : yc_L G M0 u y la lb lc oa yr pl ta ba wa tr br dl fa sa ca H) (h : ∀ M1, yc_S y la lb lc yr (mj_p0 M0 y 0 1) (ye_z0 H) (M0.1 la) (M0.1 lb) (M0.1 lc) (ye_zR H) M1 → Q none G M1) : mj_R mj_tab (d + 1) 108 [.inr (.inr (some y)), .inr (.inr (some pl))] G M0 Q := by
  refine ⟨Nat.le_of_ble_eq_true rfl, ?_⟩
  show wz d mt_X10_start.2.2.2.2.1 _ mt_X10_start.2.2.2.2.1 [some (.inr (.inr (some y))), some (.inr (.inr (some pl))), none, none] [] G M0 _ _
  refine w_aln rfl ?_
  refine w_ic ?_
  refine w_pi hL.gy hL.hu.2.1 (hL.hu.1 0 (by decide)) rfl (fun _ => Or.inr rfl) ?_
  have ny : ∀ a t n, G a = (t, n) → (t = 1004 ∨ t = 26100 ∨ t = 28100 ∨ t = 29100 ∨ t = 16100 ∨ t = 17100 ∨ t = 18100) → (mj_p0 M0 y 0 1).1 a = M0.1 a := fun a t n ga ht => wz_c (hn_ne ga hL.gy (fun q => hL.hu.o ht (by decide) q.symm))
  have hL1 := hL.mv (M1 := mj_p0 M0 y 0 1) rfl ny
  have eA : (mj_p0 M0 y 0 1).1 la = M0.1 la := wz_c hL.nya.symm
  have eB : (mj_p0 M0 y 0 1).1 lb = M0.1 lb := wz_c hL.nyb.symm
  have eC : (mj_p0 M0 y 0 1).1 lc = M0.1 lc := wz_c hL.nyc.symm
  rw [← eA, ← eB, ← eC] at h
  clear hL ny eA eB eC
  revert h hL1
  generalize mj_p0 M0 y 0 1 = M1
  intro h hL
  have hC : yc_S y la lb lc yr M1 (fun j => M1.1 y (ye_f j)) (M1.1 la) (M1.1 lb) (M1.1 lc) (fun t => M1.1 (yr t)) M1 := yc_S.re
  revert hC
  generalize (fun j => M1.1 y (ye_f j)) = g
  intro hC
  refine w_aln rfl ?_
  refine w_ic ?_
  refine w_pi hL.gy hL.hu.2.1 (hL.hu.1 0 (by decide)) rfl (fun q => by cases q) ?_
  have hC1 := hC.pf (j := 222) (v := 0) hL (by decide) (by decide) rfl
  refine w_aln rfl ?_
  refine w_ic ?_
  refine w_pi hL.gy hL.hu.2.1 (hL.hu.1 0 (by decide)) rfl (fun q => by cases q) ?_
  have hC2 := hC1.pf (j := 224) (v := 0) hL (by decide) (by decide) rfl
  refine w_aln rfl ?_
  refine w_bp ?_
  refine w_pi hL.gy hL.hu.2.1 (hL.hu.1 0 (by decide)) rfl (fun q => by cases q) ?_
  have hC3 := hC2.pf (j := 223) (v := 8) hL (by decide) (by decide) rfl
  refine w_aln rfl ?_
  refine w_aln rfl ?_
  refine w_gi hL.gpl rfl (by decide) rfl ((congrFun (hC3.oo hL hL.gpl (by decide)) 7).trans hL.n7) ?_
  refine w_pi hL.gy hL.hu.2.1 (hL.hu.1 0 (by decide)) rfl (fun q => by cases q) ?_
  have hC4 := hC3.pf (j := 225) (v := (H 2)) hL (by decide) (by decide) rfl
  refine w_aln rfl ?_
  refine w_ic ?_
  refine w_pi hL.gy hL.hu.2.1 (hL.hu.1 0 (by decide)) rfl (fun q => by cases q) ?_
  have hC5 := hC4.pf (j := 226) (v := 0) hL (by decide) (by decide) rfl
  refine w_aln rfl ?_
  refine w_ic ?_
  refine w_pi hL.gy hL.hu.2.1 (hL.hu.1 0 (by decide)) rfl (fun q => by cases q) ?_
  have hC6 := hC5.pf (j := 227) (v := 0) hL (by decide) (by decide) rfl
  refine w_aln rfl ?_
  refine w_ic ?_
  refine w_pi hL.gy hL.hu.2.1 (hL.hu.1 0 (by decide)) rfl (fun q => by cases q) ?_
  have hC7 := hC6.pf (j := 228) (v := 0) hL (by decide) (by decide) rfl
  refine w_aln rfl ?_
  refine w_ic ?_
  refine w_pi hL.gy hL.hu.2.1 (hL.hu.1 0 (by decide)) rfl (fun q => by cases q) ?_
  have hC8 := hC7.pf (j := 229) (v := 0) hL (by decide) (by decide) rfl
  refine w_aln rfl ?_
  refine w_ic ?_
  refine w_pi hL.gy hL.hu.2.1 (hL.hu.1 0 (by decide)) rfl (fun q => by cases q) ?_
  have hC9 := hC8.pf (j := 230) (v := 0) hL (by decide) (by decide) rfl
  refine w_aln rfl ?_
  refine w_ic ?_
  refine w_pi hL.gy hL.hu.2.1 (hL.hu.1 0 (by decide)) rfl (fun q => by cases q) ?_
  have hC10 := hC9.pf (j := 231) (v := 0) hL (by decide) (by decide) rfl
  refine w_ic ?_
  refine w_isn ?_
  show wz _ _ _ _ [some (.inr (.inr (some y))), some (.inr (.inr (some pl))), some (.inl 0), none] _ _ _ _ _
  refine r_stO (d := d) hL 8 0 _ _ _ _ _ (by decide) (by decide) hC10 (fun s _ q => by omega) (fun M2 hC2 => h M2 (hC2.cg ?_ (fun _ _ _ _ => rfl)))
  refine ye_10 ?_ ?_ ?_ ?_ ?_ ?_ ?_ ?_ ?_ ?_
  · exact ((rv_up_n (by decide)).trans ((rv_up_n (by decide)).trans ((rv_up_n (by decide)).trans ((rv_up_n (by decide)).trans ((rv_up_n (by decide)).trans ((rv_up_n (by decide)).trans ((rv_up_n (by decide)).trans ((rv_up_n (by decide)).trans ((rv_up_n (by decide)).trans (rv_up_s)))))))))).trans (show (0 : Int) = ye_z0 H 222 from rfl)
  · exact ((rv_up_n (by decide)).trans ((rv_up_n (by decide)).trans ((rv_up_n (by decide)).trans ((rv_up_n (by decide)).trans ((rv_up_n (by decide)).trans ((rv_up_n (by decide)).trans ((rv_up_n (by decide)).trans (rv_up_s)))))))).trans (show (8 : Int) = ye_z0 H 223 from rfl)
  · exact ((rv_up_n (by decide)).trans ((rv_up_n (by decide)).trans ((rv_up_n (by decide)).trans ((rv_up_n (by decide)).trans ((rv_up_n (by decide)).trans ((rv_up_n (by decide)).trans ((rv_up_n (by decide)).trans ((rv_up_n (by decide)).trans (rv_up_s))))))))).trans (show (0 : Int) = ye_z0 H 224 from rfl)
  · exact ((rv_up_n (by decide)).trans ((rv_up_n (by decide)).trans ((rv_up_n (by decide)).trans ((rv_up_n (by decide)).trans ((rv_up_n (by decide)).trans ((rv_up_n (by decide)).trans (rv_up_s))))))).trans (show H 2 = ye_z0 H 225 from rfl)
  · exact ((rv_up_n (by decide)).trans ((rv_up_n (by decide)).trans ((rv_up_n (by decide)).trans ((rv_up_n (by decide)).trans ((rv_up_n (by decide)).trans (rv_up_s)))))).trans (show (0 : Int) = ye_z0 H 226 from rfl)
  · exact ((rv_up_n (by decide)).trans ((rv_up_n (by decide)).trans ((rv_up_n (by decide)).trans ((rv_up_n (by decide)).trans (rv_up_s))))).trans (show (0 : Int) = ye_z0 H 227 from rfl)
  · exact ((rv_up_n (by decide)).trans ((rv_up_n (by decide)).trans ((rv_up_n (by decide)).trans (rv_up_s)))).trans (show (0 : Int) = ye_z0 H 228 from rfl)
  · exact ((rv_up_n (by decide)).trans ((rv_up_n (by decide)).trans (rv_up_s))).trans (show (0 : Int) = ye_z0 H 229 from rfl)
  · exact ((rv_up_n (by decide)).trans (rv_up_s)).trans (show (0 : Int) = ye_z0 H 230 from rfl)
  · exact (rv_up_s).trans (show (0 : Int) = ye_z0 H 231 from rfl)
  
abbrev ye_T := (Nat → Int) × (Nat → Int) × (Nat → Int) × (Nat → Int) × (Nat → Nat → Int)
def ye_mo (H : Nat → Int) (x : Int) (s : ye_T) : ye_T := (ye_mg H x s.1 s.2.2.2.2 s.2.1 s.2.2.1, rv_up s.2.1 (s.1 222).toNat (ye_le H s.2.2.2.2 (s.1 222).toNat).1, rv_up s.2.2.1 (s.1 222).toNat (ye_le H s.2.2.2.2 (s.1 222).toNat).2.1, rv_up s.2.2.2.1 (s.1 222).toNat (ye_le H s.2.2.2.2 (s.1 222).toNat).2.2, ye_mR H x s.1 s.2.2.2.2)
def ye_it (H : Nat → Int) (xs : Nat → Int) (s : ye_T) : Nat → ye_T
  | 0 => s
  | k + 1 => ye_mo H (xs k) (ye_it H xs s k)
abbrev ye_okT (H : Nat → Int) (s : ye_T) : Prop := ye_ok H s.1 s.2.1 s.2.2.1 s.2.2.2.1 s.2.2.2.2
/-- to whom the MONTHS done were let, alike -/
def ye_rl (s : ye_T) (A B C : Nat → Int) : Prop := ∀ j : Nat, j < 12 → (j : Int) < s.1 222 → A j = s.2.1 j ∧ B j = s.2.2.1 j ∧ C j = s.2.2.2.1 j
section YI
variable {H g A B C A2 B2 : Nat → Int} {R : Nat → Nat → Int} {x mi : Int} {s : ye_T} {xs : Nat → Int}
theorem ye_mo_okT (hH : ye_H H) (hk : ye_okT H s) (m0 : s.1 222 ≤ 11) (hx : 0 ≤ x ∧ x ≤ 99) : ye_okT H (ye_mo H x s) ∧ (ye_mo H x s).1 222 = s.1 222 + 1 := ye_mo_ok hH hk rfl ⟨hk.1.1, m0⟩ hx
theorem ye_it_ok (hH : ye_H H) (hk : ye_okT H s) (hx : ∀ k, 0 ≤ xs k ∧ xs k ≤ 99) : ∀ k : Nat, s.1 222 + k ≤ 12 → ye_okT H (ye_it H xs s k) ∧ (ye_it H xs s k).1 222 = s.1 222 + k
  | 0, _ => ⟨hk, (Int.add_zero _).symm⟩
  | k + 1, h => by
    have ih := ye_it_ok hH hk hx k (by omega)
    have q := ye_mo_okT (x := xs k) hH ih.1 (by omega) (hx k)
    exact ⟨q.1, by show (ye_mo H (xs k) (ye_it H xs s k)).1 222 = _; omega⟩
theorem ye_mg_c (hm : g 222 = mi) (m0 : 0 ≤ mi ∧ mi ≤ 11) (h : 0 < mi.toNat → A (mi.toNat - 1) = A2 (mi.toNat - 1) ∧ B (mi.toNat - 1) = B2 (mi.toNat - 1)) : ye_mg H x g R A B = ye_mg H x g R A2 B2 := by
  rcases hle : ye_le H R mi.toNat with ⟨L, O, P⟩
  rw [ye_mg_e hm hle, ye_mg_e hm hle]
  have eb : ∀ k, ye_br H A B mi.toNat k = ye_br H A2 B2 mi.toNat k := fun k => by
    unfold ye_br
    by_cases c : 0 < mi.toNat
    · rw [(h c).1, (h c).2]
    · rw [if_neg (fun q : 0 < mi.toNat ∧ _ => c q.1), if_neg (fun q : 0 < mi.toNat ∧ _ => c q.1)]
  have ec : ye_co H g A B mi.toNat L O = ye_co H g A2 B2 mi.toNat L O := by unfold ye_co; rw [eb, eb]
  have e1 : ye_g1 H g A B mi.toNat L O P = ye_g1 H g A2 B2 mi.toNat L O P := by unfold ye_g1; rw [ec]
  rw [e1]
theorem ye_ok.rl (hk : ye_okT H s) (h : ye_rl s A B C) : ye_ok H s.1 A B C s.2.2.2.2 := by
  obtain ⟨k1, k2, k3, k4, k5, k6, k7, k8, k9, k10, k11, k12, k13⟩ := hk
  refine ⟨k1, k2, k3, k4, k5, k6, k7, k8, k9, k10, k11, k12, fun j hj => ?_⟩
  obtain ⟨a, b, c⟩ := h j (by omega) hj
  rw [a, b, c]; exact k13 j hj
end YI
/-- the cells of a YEAR of the class hold s -/
def yc_T (y la lb lc : Nat) (yr : Nat → Nat) (M0 : mj_M) (s : ye_T) (M : mj_M) : Prop := ∃ A B C, yc_S y la lb lc yr M0 s.1 A B C s.2.2.2.2 M ∧ ye_rl s A B C
theorem r_nextT {G : mj_G} {M M0 : mj_M} {u : Nat → Nat} {y la lb lc oa pl ta ba wa dl fa sa ca : Nat} {yr tr br : Nat → Nat} {H : Nat → Int} {s : ye_T} {x : Int} {Q : mj_P} {d : Nat} (hL : yc_L G M0 u y la lb lc oa yr pl ta ba wa tr br dl fa sa ca H) (hT : yc_T y la lb lc yr M0 s M) (hH : ye_H H) (hk : ye_okT H s) (hm : s.1 222 ≤ 11) (hx : 0 ≤ x ∧ x ≤ 99) (h : ∀ M, yc_T y la lb lc yr M0 (ye_mo H x s) M → Q none G M) : mj_R mj_tab (d + 3) 103 [.inr (.inr (some y)), .inr (.inr (some pl)), .inr (.inr (some dl)), .inl x] G M Q := by
  obtain ⟨A, B, C, hC, hr⟩ := hT
  have h0 := hk.1.1
  refine r_X10_nextMonth (mi := s.1 222) hL hC rfl ⟨h0, hm⟩ hH (hk.rl hr) hx (fun A1 B1 C1 M1 eA eB eC hC1 => h M1 ⟨A1, B1, C1, ?_, fun j hj hjm => ?_⟩)
  · have e := ye_mg_c (H := H) (R := s.2.2.2.2) (x := x) (A := A) (B := B) (A2 := s.2.1) (B2 := s.2.2.1) (g := s.1) rfl ⟨h0, hm⟩ (fun c => by
      obtain ⟨a, b, -⟩ := hr ((s.1 222).toNat - 1) (by omega) (by omega)
      exact ⟨a, b⟩)
    rw [e] at hC1
    exact hC1
  · have e22 := (ye_mo_okT (x := x) hH hk hm hx).2
    rw [e22] at hjm
    rw [eA j hj, eB j hj, eC j hj]
    show rv_up A _ _ j = rv_up s.2.1 _ _ j ∧ rv_up B _ _ j = rv_up s.2.2.1 _ _ j ∧ rv_up C _ _ j = rv_up s.2.2.2.1 _ _ j
    by_cases c : j = (s.1 222).toNat
    · rw [c, rv_up_s, rv_up_s, rv_up_s, rv_up_s, rv_up_s, rv_up_s]; exact ⟨rfl, rfl, rfl⟩
    · rw [rv_up_n c, rv_up_n c, rv_up_n c, rv_up_n c, rv_up_n c, rv_up_n c]
      exact hr j hj (by omega)
theorem yc_T.m {y la lb lc : Nat} {yr : Nat → Nat} {M0 M : mj_M} {s : ye_T} (h : yc_T y la lb lc yr M0 s M) : M.1 y 1 = s.1 222 := by
  obtain ⟨A, B, C, hC, -⟩ := h
  exact hC.f (j := 222) (by decide) (by decide) rfl
theorem r_goC {G : mj_G} {M0 : mj_M} {u : Nat → Nat} {y la lb lc oa pl ta ba wa dl fa sa ca : Nat} {yr tr br : Nat → Nat} {H : Nat → Int} {s0 : ye_T} {n : Int} {Q : mj_P} {d : Nat} (hL : yc_L G M0 u y la lb lc oa yr pl ta ba wa tr br dl fa sa ca H) (hH : ye_H H) (hk : ye_okT H s0) (hn : 0 ≤ n ∧ n ≤ 12) {dn : Int} (hd : dn = if n < 12 - s0.1 222 then n else 12 - s0.1 222) : ∀ (f : Nat) (i : Int) (M : mj_M) (cb sb : Nat), i + f = dn → 0 ≤ i → yc_T y la lb lc yr M0 (ye_it H (fun _ => 0) s0 i.toNat) M → (∀ M, yc_T y la lb lc yr M0 (ye_it H (fun _ => 0) s0 dn.toNat) M → Q none G M) → wz (d + 3) mt_X10_goOn.2.2.2.2.1 Q (mt_X10_goOn.2.2.2.2.1.drop 2) [some (.inr (.inr (some y))), some (.inr (.inr (some pl))), some (.inr (.inr (some dl))), some (.inl n), some (.inl i)] [] G M cb sb := by
  have k0 := hk.1
  have hd2 : dn ≤ n ∧ dn ≤ 12 - s0.1 222 ∧ (dn = n ∨ dn = 12 - s0.1 222) := by rw [hd]; split <;> omega
  intro f
  induction f with
  | zero =>
    intro i M cb sb e i0 hT h
    obtain rfl : i = dn := by omega
    have hi2 : (ye_it H (fun _ => 0) s0 i.toNat).1 222 = s0.1 222 + i := by rw [(ye_it_ok hH hk (fun _ => ⟨Int.le_refl 0, by decide⟩) i.toNat (by omega)).2]; omega
    refine w_il rfl ?_
    refine w_iln rfl ?_
    refine w_cmge (fun c1 => ?_) (fun c1 => ?_)
    · skip
      exact w_ret (h _ hT)
    · skip
      refine w_aln rfl ?_
      refine w_gi hL.gy hL.hu.2.1 (by decide) rfl (hT.m.trans hi2) ?_
      refine w_bp ?_
      refine w_cmge (fun c2 => ?_) (fun c2 => ?_)
      · skip
        exact w_ret (h _ hT)
      · exfalso; omega
  | succ f ih =>
    intro i M cb sb e i0 hT h
    have hok := ye_it_ok hH hk (xs := fun _ => 0) (fun _ => ⟨Int.le_refl 0, by decide⟩) i.toNat (by omega)
    have hi2 : (ye_it H (fun _ => 0) s0 i.toNat).1 222 = s0.1 222 + i := by rw [hok.2]; omega
    have et : (i + 1).toNat = i.toNat + 1 := by omega
    refine w_il rfl ?_
    refine w_iln rfl ?_
    refine w_cmge (fun c1 => ?_) (fun c1 => ?_)
    · exfalso; omega
    · skip
      refine w_aln rfl ?_
      refine w_gi hL.gy hL.hu.2.1 (by decide) rfl (hT.m.trans hi2) ?_
      refine w_bp ?_
      refine w_cmge (fun c2 => ?_) (fun c2 => ?_)
      · exfalso; omega
      · skip
        refine w_aln rfl ?_
        refine w_aln rfl ?_
        refine w_aln rfl ?_
        refine w_ic ?_
        refine w_cv (st := []) rfl hL.gy hL.hu.2.1 (Nat.le_of_ble_eq_true rfl) (fun kk h => h) (r_nextT (d := d) hL hT hH hok.1 (by omega) ⟨Int.le_refl 0, by decide⟩ (fun M1 hT1 => ?_))
        refine w_ii rfl ⟨by show (-2147483648 : Int) ≤ i + 1; omega, by show i + 1 < (2147483648 : Int); omega⟩ ?_
        show wz _ _ _ _ [some (.inr (.inr (some y))), some (.inr (.inr (some pl))), some (.inr (.inr (some dl))), some (.inl n), some (.inl (i + 1))] _ _ _ _ _
        refine w_goto ?_
        exact ih (i + 1) _ _ _ (by omega) (by omega) (by rw [et]; exact hT1) h
theorem r_X10_goOn {G : mj_G} {M M0 : mj_M} {u : Nat → Nat} {y la lb lc oa pl ta ba wa dl fa sa ca : Nat} {yr tr br : Nat → Nat} {H : Nat → Int} {s0 : ye_T} {n : Int} {Q : mj_P} {d : Nat} (hL : yc_L G M0 u y la lb lc oa yr pl ta ba wa tr br dl fa sa ca H) (hT : yc_T y la lb lc yr M0 s0 M) (hH : ye_H H) (hk : ye_okT H s0) (hn : 0 ≤ n ∧ n ≤ 12) {dn : Int} (hd : dn = if n < 12 - s0.1 222 then n else 12 - s0.1 222) (h : ∀ M, yc_T y la lb lc yr M0 (ye_it H (fun _ => 0) s0 dn.toNat) M → Q none G M) : mj_R mj_tab (d + 4) 93 [.inr (.inr (some y)), .inr (.inr (some pl)), .inr (.inr (some dl)), .inl n] G M Q := by
  have k0 := hk.1
  have hd2 : 0 ≤ dn := by rw [hd]; split <;> omega
  refine ⟨Nat.le_of_ble_eq_true rfl, ?_⟩
  show wz (d + 3) mt_X10_goOn.2.2.2.2.1 _ mt_X10_goOn.2.2.2.2.1 [some (.inr (.inr (some y))), some (.inr (.inr (some pl))), some (.inr (.inr (some dl))), some (.inl n), none] [] G M _ _
  refine w_ic ?_
  refine w_is ?_
  show wz _ _ _ _ [some (.inr (.inr (some y))), some (.inr (.inr (some pl))), some (.inr (.inr (some dl))), some (.inl n), some (.inl 0)] _ _ _ _ _
  exact r_goC (d := d) hL hH hk hn hd dn.toNat 0 _ _ _ (by omega) (by decide) hT h
end
section
/-! ===== YEARS of the reference: begun, whole; what is kept meanwhile (laid by a program) ===== -/
section YI
variable {G : mj_G} {M M0 M1 M2 M' : mj_M} {s m bf : Nat} {H g A B C : Nat → Int} {R : Nat → Nat → Int} {L O P z : Int} {st : ye_T} {k : Nat}
theorem yq_S.re : yq_S s m M (M.1 s) (fun j => M.1 s (320 + 3 * j)) (fun j => M.1 s (321 + 3 * j)) (fun j => M.1 s (322 + 3 * j)) (fun t w => M.1 s (232 + 11 * t + w)) (M.1 m 29) (M.1 m 30) (M.1 m 31) M := ⟨rfl, fun _ _ _ => rfl, fun _ _ _ _ => rfl, ⟨rfl, rfl, rfl⟩, fun _ _ => rfl, fun _ _ _ => rfl, fun _ _ => ⟨rfl, rfl, rfl⟩, fun _ _ _ _ => rfl⟩
/-- s holds the YEAR st -/
def yq_T (s m : Nat) (M0 : mj_M) (st : ye_T) (M : mj_M) : Prop := ∃ L O P, yq_S s m M0 st.1 st.2.1 st.2.2.1 st.2.2.2.1 st.2.2.2.2 L O P M
/-- the seed alone is another one: base and memory alike -/
theorem yq_S.rb (h : yq_S s m M0 g A B C R L O P M) (hL : yq_L G M0 s m H) : yq_S s m (mj_p0 M0 m 47 z) g A B C R L O P (mj_p0 M m 47 z) := by
  obtain ⟨h1, h2, h3, ⟨b1, b2, b3⟩, h5, h6, h7, h8⟩ := h
  have e : (mj_p0 M m 47 z).1 s = M.1 s := wz_c hL.sm
  refine ⟨h1, fun a a1 a2 => (wz_c a2).trans ((h2 a a1 a2).trans (wz_c a2).symm), fun k k1 k2 k3 => ?_, ⟨(hn_n (Or.inr (by decide))).trans b1, (hn_n (Or.inr (by decide))).trans b2, (hn_n (Or.inr (by decide))).trans b3⟩, ?_, by rw [e]; exact h6, by rw [e]; exact h7, by rw [e]; exact h8⟩
  · by_cases c : k = 47
    · subst c; exact hn_s.trans hn_s.symm
    · exact (hn_n (Or.inr c)).trans ((h3 k k1 k2 k3).trans (hn_n (Or.inr c)).symm)
  · rw [e, show (mj_p0 M0 m 47 z).1 s = M0.1 s from wz_c hL.sm]; exact h5
theorem yq_L.sd (h : yq_L G M0 s m H) : yq_L G (mj_p0 M0 m 47 z) s m H := ⟨h.1, h.2.1, h.2.2.1, fun j hj => (congrFun (wz_c h.sm) j).trans (h.2.2.2.1 j hj), (hn_n (Or.inr (by decide))).trans h.2.2.2.2⟩
theorem mj_p47 {a b : Int} : mj_p0 (mj_p0 M m 47 a) m 47 b = mj_p0 M m 47 b := by
  have e : (mj_p0 (mj_p0 M m 47 a) m 47 b).1 = (mj_p0 M m 47 b).1 := funext fun x => funext fun j => by
    show (if x = m ∧ j = 47 then b else if x = m ∧ j = 47 then a else M.1 x j) = (if x = m ∧ j = 47 then b else M.1 x j)
    by_cases c : x = m ∧ j = 47
    · rw [if_pos c, if_pos c]
    · rw [if_neg c, if_neg c, if_neg c]
  show ((mj_p0 (mj_p0 M m 47 a) m 47 b).1, M.2) = ((mj_p0 M m 47 b).1, M.2)
  rw [e]
/-- a YEAR as it begins -/
def ye_fr (H : Nat → Int) : ye_T := (ye_z0 H, fun _ => 0, fun _ => 0, fun _ => 0, ye_zR H)
def ye_H2 (H : Nat → Int) : Prop := ye_H H ∧ ∀ t : Nat, t < 8 → H 0 ≤ (t : Int) → H (7 + 9 * t) = 0
theorem ye_fr_ok (h : ye_H2 H) : ye_okT H (ye_fr H) ∧ (ye_fr H).1 222 = 0 := by
  obtain ⟨⟨h0, h1, h2, h3, hT, hw, hB, hd⟩, hz⟩ := h
  refine ⟨⟨⟨Int.le_refl 0, (by decide : (0 : Int) ≤ 12)⟩, Or.inl rfl, ⟨Int.le_refl 0, Int.le_refl 0⟩, h2, ⟨Int.le_refl 0, Int.le_refl 0⟩, ⟨Int.le_refl 0, Int.le_refl 0⟩, ⟨Int.le_refl 0, Int.le_refl 0⟩, ⟨Int.le_refl 0, Int.le_refl 0⟩, ⟨Int.le_refl 0, Int.le_refl 0⟩, ⟨Int.le_refl 0, Int.le_refl 0⟩, fun t ht => ?_, fun t ht hn w hw => ?_, fun j hj => ?_⟩, rfl⟩
  · have q7 := hT (7 + 9 * t) (by omega) (by omega)
    have q5 := hT (5 + 9 * t) (by omega) (by omega)
    have e : ∀ w, w ≠ 1 → (ye_fr H).2.2.2.2 t w = 0 := fun w hw => if_neg (fun q => hw q.1)
    have e1 : (ye_fr H).2.2.2.2 t 1 = H (7 + 9 * t) := by
      show (if (1 : Nat) = 1 ∧ t < 8 then H (7 + 9 * t) else 0) = H (7 + 9 * t)
      exact if_pos ⟨rfl, ht⟩
    have e2 : (ye_fr H).1 222 = 0 := rfl
    unfold ye_rk
    rw [e 0 (by decide), e1, e 2 (by decide), e 3 (by decide), e 4 (by decide), e 5 (by decide), e 6 (by decide), e 7 (by decide), e 8 (by decide), e 9 (by decide), e 10 (by decide), e2]
    omega
  · show (if w = 1 ∧ t < 8 then H (7 + 9 * t) else 0) = 0
    by_cases c : w = 1 ∧ t < 8
    · rw [if_pos c]; exact hz t ht hn
    · rw [if_neg c]
  · have e2 : (ye_fr H).1 222 = 0 := rfl
    rw [e2] at hj; omega
/-- what begins leaves -/
def rq_Z (s : Nat) (H : Nat → Int) (M M' : mj_M) : Prop := M'.2 = M.2 ∧ (∀ a, a ≠ s → M'.1 a = M.1 a) ∧ (∀ j, j < 221 ∨ (356 ≤ j ∧ j < 537) → M'.1 s j = M.1 s j) ∧ M'.1 s 221 = 1 ∧ (∀ j, 222 ≤ j → j < 232 → M'.1 s j = ye_z0 H j) ∧ (∀ j, j < 12 → M'.1 s (320 + 3 * j) = 0 ∧ M'.1 s (321 + 3 * j) = 0 ∧ M'.1 s (322 + 3 * j) = 0) ∧ (∀ t w, t < 8 → w < 11 → M'.1 s (232 + 11 * t + w) = ye_zR H t w)
theorem rq_Z.T (h : rq_Z s H M M') : yq_T s m M' (ye_fr H) M' := by
  obtain ⟨-, -, -, -, h5, h6, h7⟩ := h
  exact ⟨_, _, _, rfl, fun _ _ _ => rfl, fun _ _ _ _ => rfl, ⟨rfl, rfl, rfl⟩, fun _ _ => rfl, h5, h6, h7⟩
/-- what a whole YEAR leaves -/
def rq_Y (s m : Nat) (st : ye_T) (M M' : mj_M) : Prop := M'.2 = M.2 ∧ (∀ a, a ≠ s → a ≠ m → M'.1 a = M.1 a) ∧ (∀ k, k ≠ 29 → k ≠ 30 → k ≠ 31 → k ≠ 47 → M'.1 m k = M.1 m k) ∧ (∀ j, j < 221 ∨ (356 ≤ j ∧ j < 537) → M'.1 s j = M.1 s j) ∧ M'.1 s 221 = 1 ∧ (∀ j, 222 ≤ j → j < 232 → M'.1 s j = st.1 j) ∧ (∀ j, j < 12 → M'.1 s (320 + 3 * j) = st.2.1 j ∧ M'.1 s (321 + 3 * j) = st.2.2.1 j ∧ M'.1 s (322 + 3 * j) = st.2.2.2.1 j) ∧ (∀ t w, t < 8 → w < 11 → M'.1 s (232 + 11 * t + w) = st.2.2.2.2 t w)
end YI
theorem r_bg1 {G : mj_G} {M0 : mj_M} {s m : Nat} {H : Nat → Int} {Q : mj_P} {d : Nat} (gm : G m = (1012, 0)) (gs : G s = (51100, 537)) (m6 : M0.2.2 m 6 = some s) (hH : ∀ j, j < 221 → M0.1 s j = H j) : ∀ (n : Nat) (i : Int) (SF : Nat → Int) (M : mj_M) (cb sb : Nat), i + n = 356 → 221 ≤ i → tk_R s M0 SF M → (∀ k : Nat, k < 537 → (k < 221 ∨ i ≤ (k : Int) → SF k = M0.1 s k) ∧ (221 ≤ k ∧ (k : Int) < i → SF k = 0)) → (∀ SF M, tk_R s M0 SF M → (∀ k, k < 537 → (k < 221 ∨ 356 ≤ k → SF k = M0.1 s k) ∧ (221 ≤ k ∧ k < 356 → SF k = 0)) → wz (d + 1) mt_X12_begins.2.2.2.2.1 Q (mt_X12_begins.2.2.2.2.1.drop 12) [some (.inr (.inr (some m))), some (.inl 356)] [] G M cb sb) → wz (d + 1) mt_X12_begins.2.2.2.2.1 Q (mt_X12_begins.2.2.2.2.1.drop 2) [some (.inr (.inr (some m))), some (.inl i)] [] G M cb sb := by
  intro n
  induction n with
  | zero =>
    intro i SF M cb sb e i0 hC hz h
    obtain rfl : i = 356 := by omega
    refine w_iln rfl ?_
    refine w_sp ?_
    refine w_cmge (fun c1 => ?_) (fun c1 => ?_)
    · skip
      exact h SF _ hC (fun k hk => ⟨fun q => (hz k hk).1 (by omega), fun q => (hz k hk).2 (by omega)⟩)
    · exfalso; omega
  | succ n ih =>
    intro i SF M cb sb e i0 hC hz h
    refine w_iln rfl ?_
    refine w_sp ?_
    refine w_cmge (fun c1 => ?_) (fun c1 => ?_)
    · exfalso; omega
    · skip
      refine w_aln rfl ?_
      refine w_gr gm rfl (by decide) rfl (hC.r (m6)) ?_
      refine w_iln rfl ?_
      refine w_ic ?_
      refine w_iast gs rfl (by decide) (by show (0 : Int) ≤ i; omega) (by show i < ((537 : Nat) : Int); omega) ?_
      have hC2 := hC.hW (j := i.toNat) (z := 0) rfl
      refine w_ii rfl ⟨by show (-2147483648 : Int) ≤ i + 1; omega, by show i + 1 < (2147483648 : Int); omega⟩ ?_
      show wz _ _ _ _ [some (.inr (.inr (some m))), some (.inl (i + 1))] _ _ _ _ _
      refine w_goto ?_
      refine ih (i + 1) _ _ _ _ (by omega) (by omega) hC2 (fun k hk => ?_) h
      by_cases e9 : k = i.toNat
      · exact ⟨fun q => by omega, fun _ => by rw [e9]; exact rv_up_s⟩
      · rw [rv_up_n e9]; exact ⟨fun q => (hz k hk).1 (by omega), fun q => (hz k hk).2 (by omega)⟩
theorem r_bg2 {G : mj_G} {M0 : mj_M} {s m : Nat} {H : Nat → Int} {Q : mj_P} {d : Nat} (gm : G m = (1012, 0)) (gs : G s = (51100, 537)) (m6 : M0.2.2 m 6 = some s) (hH : ∀ j, j < 221 → M0.1 s j = H j) (h0 : 0 ≤ H 0 ∧ H 0 ≤ 8) : ∀ (n : Nat) (i : Int) (SF : Nat → Int) (M : mj_M) (cb sb : Nat), i + n = H 0 → 0 ≤ i → tk_R s M0 SF M → (∀ k, k < 537 → (k < 221 ∨ 356 ≤ k → SF k = M0.1 s k)) → SF 221 = 1 → (∀ j, 222 ≤ j → j < 232 → SF j = ye_z0 H j) → (∀ j, j < 36 → SF (320 + j) = 0) → (∀ t w, t < 8 → w < 11 → SF (232 + 11 * t + w) = if w = 1 ∧ (t : Int) < i then H (7 + 9 * t) else 0) → (∀ SF M, tk_R s M0 SF M → (∀ k, k < 537 → (k < 221 ∨ 356 ≤ k → SF k = M0.1 s k)) → SF 221 = 1 → (∀ j, 222 ≤ j → j < 232 → SF j = ye_z0 H j) → (∀ j, j < 36 → SF (320 + j) = 0) → (∀ t w, t < 8 → w < 11 → SF (232 + 11 * t + w) = if w = 1 ∧ (t : Int) < H 0 then H (7 + 9 * t) else 0) → Q none G M) → wz (d + 1) mt_X12_begins.2.2.2.2.1 Q (mt_X12_begins.2.2.2.2.1.drop 32) [some (.inr (.inr (some m))), some (.inl i)] [] G M cb sb := by
  intro n
  induction n with
  | zero =>
    intro i SF M cb sb e i0 hC z1 z2 z3 z4 z5 h
    obtain rfl : i = H 0 := by omega
    have rd : ∀ {j k : Nat}, k < 221 → j = k → M.1 s j = H k := fun {j k} hk e => by rw [e]; exact (hC.2.2 k (by omega)).trans ((z1 k (by omega) (Or.inl hk)).trans (hH k hk))
    refine w_iln rfl ?_
    refine w_aln rfl ?_
    refine w_gr gm rfl (by decide) rfl (hC.r (m6)) ?_
    refine w_ic ?_
    refine w_iald (v := (H 0)) gs rfl (by show (0 : Int) ≤ 0; omega) (by show 0 < ((537 : Nat) : Int); omega) (rd (show 0 < 221 by omega) (show (0 : Int).toNat = 0 by omega)) ?_
    refine w_cmge (fun c1 => ?_) (fun c1 => ?_)
    · skip
      exact w_ret (h SF _ hC z1 z2 z3 z4 z5)
    · exfalso; omega
  | succ n ih =>
    intro i SF M cb sb e i0 hC z1 z2 z3 z4 z5 h
    have rd : ∀ {j k : Nat}, k < 221 → j = k → M.1 s j = H k := fun {j k} hk e => by rw [e]; exact (hC.2.2 k (by omega)).trans ((z1 k (by omega) (Or.inl hk)).trans (hH k hk))
    refine w_iln rfl ?_
    refine w_aln rfl ?_
    refine w_gr gm rfl (by decide) rfl (hC.r (m6)) ?_
    refine w_ic ?_
    refine w_iald (v := (H 0)) gs rfl (by show (0 : Int) ≤ 0; omega) (by show 0 < ((537 : Nat) : Int); omega) (rd (show 0 < 221 by omega) (show (0 : Int).toNat = 0 by omega)) ?_
    refine w_cmge (fun c1 => ?_) (fun c1 => ?_)
    · exfalso; omega
    · skip
      refine w_aln rfl ?_
      refine w_gr gm rfl (by decide) rfl (hC.r (m6)) ?_
      refine w_sp ?_
      refine w_bp ?_
      refine w_iln rfl ?_
      refine w_mul ⟨by show (-2147483648 : Int) ≤ 11 * i; omega, by show 11 * i < (2147483648 : Int); omega⟩ ?_
      refine w_add ⟨by show (-2147483648 : Int) ≤ 232 + (11 * i); omega, by show 232 + (11 * i) < (2147483648 : Int); omega⟩ ?_
      refine w_ic ?_
      refine w_add ⟨by show (-2147483648 : Int) ≤ (232 + (11 * i)) + 1; omega, by show (232 + (11 * i)) + 1 < (2147483648 : Int); omega⟩ ?_
      refine w_aln rfl ?_
      refine w_iln rfl ?_
      refine w_ic ?_
      refine w_cv (st := [.inl ((232 + (11 * i)) + 1), .inr (.inr (some s))]) rfl gm rfl (Nat.le_of_ble_eq_true rfl) (fun kk h => h) ⟨Nat.le_of_ble_eq_true rfl, ?_⟩
      show wz (d) mt_X12_toldOf.2.2.2.2.1 _ mt_X12_toldOf.2.2.2.2.1 [some (.inr (.inr (some m))), some (.inl i), some (.inl 3)] [] _ _ _ _
      refine w_aln rfl ?_
      refine w_gr gm rfl (by decide) rfl (hC.r (m6)) ?_
      refine w_ic ?_
      refine w_bp ?_
      refine w_iln rfl ?_
      refine w_mul ⟨by show (-2147483648 : Int) ≤ 9 * i; omega, by show 9 * i < (2147483648 : Int); omega⟩ ?_
      refine w_add ⟨by show (-2147483648 : Int) ≤ 4 + (9 * i); omega, by show 4 + (9 * i) < (2147483648 : Int); omega⟩ ?_
      refine w_iln rfl ?_
      refine w_add ⟨by show (-2147483648 : Int) ≤ (4 + (9 * i)) + 3; omega, by show (4 + (9 * i)) + 3 < (2147483648 : Int); omega⟩ ?_
      refine w_iald (v := (H (7 + 9 * i.toNat))) gs rfl (by show (0 : Int) ≤ (4 + (9 * i)) + 3; omega) (by show (4 + (9 * i)) + 3 < ((537 : Nat) : Int); omega) (rd (show 7 + 9 * i.toNat < 221 by omega) (show ((4 + (9 * i)) + 3).toNat = 7 + 9 * i.toNat by omega)) ?_
      refine w_iret (fun q => by cases q) ?_
      refine w_iast gs rfl (by decide) (by show (0 : Int) ≤ (232 + (11 * i)) + 1; omega) (by show (232 + (11 * i)) + 1 < ((537 : Nat) : Int); omega) ?_
      have hC2 := hC.hW (j := ((232 + (11 * i)) + 1).toNat) (z := (H (7 + 9 * i.toNat))) rfl
      refine w_ii rfl ⟨by show (-2147483648 : Int) ≤ i + 1; omega, by show i + 1 < (2147483648 : Int); omega⟩ ?_
      show wz _ _ _ _ [some (.inr (.inr (some m))), some (.inl (i + 1))] _ _ _ _ _
      refine w_goto ?_
      refine ih (i + 1) _ _ _ _ (by omega) (by omega) hC2 (fun k hk q => (rv_up_n (by omega)).trans (z1 k hk q)) ((rv_up_n (by omega)).trans z2) (fun j j1 j2 => (rv_up_n (by omega)).trans (z3 j j1 j2)) (fun j hj => (rv_up_n (by omega)).trans (z4 j hj)) (fun t w ht hw => ?_) h
      by_cases e9 : w = 1 ∧ t = i.toNat
      · obtain ⟨rfl, rfl⟩ := e9
        rw [if_pos ⟨rfl, by omega⟩]
        exact tk_up (by omega)
      · refine (rv_up_n (by omega)).trans ((z5 t w ht hw).trans ?_)
        by_cases e8 : w = 1 ∧ (t : Int) < i
        · rw [if_pos e8, if_pos ⟨e8.1, by omega⟩]
        · rw [if_neg e8, if_neg (fun q => e8 ⟨q.1, by omega⟩)]
theorem r_X12_beginsC {G : mj_G} {M0 : mj_M} {s m : Nat} {H : Nat → Int} {Q : mj_P} {d : Nat} (gm : G m = (1012, 0)) (gs : G s = (51100, 537)) (m6 : M0.2.2 m 6 = some s) (hH : ∀ j, j < 221 → M0.1 s j = H j) (h0 : 0 ≤ H 0 ∧ H 0 ≤ 8) (hz : ∀ t : Nat, t < 8 → H 0 ≤ (t : Int) → H (7 + 9 * t) = 0) (h : ∀ M, rq_Z s H M0 M → Q none G M) : mj_R mj_tab (d + 2) 163 [.inr (.inr (some m))] G M0 Q := by
  refine ⟨Nat.le_of_ble_eq_true rfl, ?_⟩
  show wz (d + 1) mt_X12_begins.2.2.2.2.1 _ mt_X12_begins.2.2.2.2.1 [some (.inr (.inr (some m))), none] [] G M0 _ _
  refine w_sp ?_
  refine w_isn ?_
  show wz _ _ _ _ [some (.inr (.inr (some m))), some (.inl 221)] _ _ _ _ _
  refine r_bg1 (d := d) gm gs m6 hH 135 221 (M0.1 s) M0 _ _ (by decide) (by decide) ⟨rfl, fun _ _ => rfl, fun _ _ => rfl⟩ (fun k hk => ⟨fun _ => rfl, fun q => by omega⟩) (fun SF M hC hz1 => ?_)
  have rd : ∀ {j k : Nat}, k < 221 → j = k → M.1 s j = H k := fun {j k} hk e => by rw [e]; exact (hC.2.2 k (by omega)).trans (((hz1 k (by omega)).1 (Or.inl hk)).trans (hH k hk))
  refine w_aln rfl ?_
  refine w_gr gm rfl (by decide) rfl (hC.r (m6)) ?_
  refine w_sp ?_
  refine w_ic ?_
  refine w_iast gs rfl (by decide) (by show (0 : Int) ≤ 221; omega) (by show 221 < ((537 : Nat) : Int); omega) ?_
  have hC1 := hC.hW (j := (221 : Int).toNat) (z := 1) rfl
  refine w_aln rfl ?_
  refine w_gr gm rfl (by decide) rfl (hC1.r (m6)) ?_
  refine w_sp ?_
  refine w_bp ?_
  refine w_iast gs rfl (by decide) (by show (0 : Int) ≤ 223; omega) (by show 223 < ((537 : Nat) : Int); omega) ?_
  have hC2 := hC1.hW (j := (223 : Int).toNat) (z := 8) rfl
  refine w_aln rfl ?_
  refine w_gr gm rfl (by decide) rfl (hC2.r (m6)) ?_
  refine w_sp ?_
  refine w_aln rfl ?_
  refine w_gr gm rfl (by decide) rfl (hC2.r (m6)) ?_
  refine w_ic ?_
  refine w_iald (v := (H 2)) gs rfl (by show (0 : Int) ≤ 2; omega) (by show 2 < ((537 : Nat) : Int); omega) ((hn_n (Or.inr (by omega))).trans ((hn_n (Or.inr (by omega))).trans (rd (show 2 < 221 by omega) (show (2 : Int).toNat = 2 by omega)))) ?_
  refine w_iast gs rfl (by decide) (by show (0 : Int) ≤ 225; omega) (by show 225 < ((537 : Nat) : Int); omega) ?_
  have hC3 := hC2.hW (j := (225 : Int).toNat) (z := (H 2)) rfl
  refine w_ic ?_
  refine w_isn ?_
  show wz _ _ _ _ [some (.inr (.inr (some m))), some (.inl 0)] _ _ _ _ _
  refine r_bg2 (d := d) gm gs m6 hH h0 (H 0).toNat 0 _ _ _ _ (by omega) (by decide) hC3 (fun k hk q => ?_) ?_ ?_ (fun j hj => ?_) (fun t w ht hw => ?_) (fun SF9 M9 hC9 y1 y2 y3 y4 y5 => h M9 ⟨hC9.1, hC9.2.1, fun j hj => (hC9.2.2 j (by omega)).trans (y1 j (by omega) (by omega)), (hC9.2.2 221 (by decide)).trans y2, fun j j1 j2 => (hC9.2.2 j (by omega)).trans (y3 j j1 j2), fun j hj => ⟨(hC9.2.2 _ (by omega)).trans (y4 (3 * j) (by omega)), ?_, ?_⟩, fun t w ht hw => ?_⟩)
  · exact (rv_up_n (by omega)).trans ((rv_up_n (by omega)).trans ((rv_up_n (by omega)).trans ((hz1 k hk).1 q)))
  · exact (rv_up_n (by decide)).trans ((rv_up_n (by decide)).trans rv_up_s)
  · refine ye_10 ?_ ?_ ?_ ?_ ?_ ?_ ?_ ?_ ?_ ?_
    · exact (rv_up_n (by decide)).trans ((rv_up_n (by decide)).trans ((rv_up_n (by decide)).trans ((hz1 222 (by decide)).2 (by decide))))
    · exact (rv_up_n (by decide)).trans rv_up_s
    · exact (rv_up_n (by decide)).trans ((rv_up_n (by decide)).trans ((rv_up_n (by decide)).trans ((hz1 224 (by decide)).2 (by decide))))
    · exact rv_up_s
    · exact (rv_up_n (by decide)).trans ((rv_up_n (by decide)).trans ((rv_up_n (by decide)).trans ((hz1 226 (by decide)).2 (by decide))))
    · exact (rv_up_n (by decide)).trans ((rv_up_n (by decide)).trans ((rv_up_n (by decide)).trans ((hz1 227 (by decide)).2 (by decide))))
    · exact (rv_up_n (by decide)).trans ((rv_up_n (by decide)).trans ((rv_up_n (by decide)).trans ((hz1 228 (by decide)).2 (by decide))))
    · exact (rv_up_n (by decide)).trans ((rv_up_n (by decide)).trans ((rv_up_n (by decide)).trans ((hz1 229 (by decide)).2 (by decide))))
    · exact (rv_up_n (by decide)).trans ((rv_up_n (by decide)).trans ((rv_up_n (by decide)).trans ((hz1 230 (by decide)).2 (by decide))))
    · exact (rv_up_n (by decide)).trans ((rv_up_n (by decide)).trans ((rv_up_n (by decide)).trans ((hz1 231 (by decide)).2 (by decide))))
  · exact (rv_up_n (by omega)).trans ((rv_up_n (by omega)).trans ((rv_up_n (by omega)).trans ((hz1 _ (by omega)).2 (by omega))))
  · rw [if_neg (by omega)]; exact (rv_up_n (by omega)).trans ((rv_up_n (by omega)).trans ((rv_up_n (by omega)).trans ((hz1 _ (by omega)).2 (by omega))))
  · have q := y4 (1 + 3 * j) (by omega); rw [show 320 + (1 + 3 * j) = 321 + 3 * j by omega] at q; exact (hC9.2.2 _ (by omega)).trans q
  · have q := y4 (2 + 3 * j) (by omega); rw [show 320 + (2 + 3 * j) = 322 + 3 * j by omega] at q; exact (hC9.2.2 _ (by omega)).trans q
  · refine (hC9.2.2 _ (by omega)).trans ((y5 t w ht hw).trans ?_)
    unfold ye_zR
    by_cases c : w = 1
    · by_cases c2 : (t : Int) < H 0
      · rw [if_pos ⟨c, c2⟩, if_pos ⟨c, ht⟩]
      · rw [if_neg (fun q => c2 q.2), if_pos ⟨c, ht⟩]; exact (hz t ht (by omega)).symm
    · rw [if_neg (fun q => c q.1), if_neg (fun q => c q.1)]
theorem r_monthT {G : mj_G} {M M0 : mj_M} {s m : Nat} {H : Nat → Int} {st : ye_T} {x : Int} {Q : mj_P} {d : Nat} (hL : yq_L G M0 s m H) (hT : yq_T s m M0 st M) (hH : ye_H H) (hk : ye_okT H st) (hm : st.1 222 ≤ 11) (hx : 0 ≤ x ∧ x ≤ 99) (h : ∀ M, yq_T s m M0 (ye_mo H x st) M → Q none G M) : mj_R mj_tab (d + 4) 213 [.inr (.inr (some m)), .inl x] G M Q := by
  obtain ⟨L, O, P, hC⟩ := hT
  refine r_X12_month (mi := st.1 222) hL hC rfl ⟨hk.1.1, hm⟩ hH hk hx (fun L1 O1 P1 M1 e hC1 => h M1 ⟨L1, O1, P1, ?_⟩)
  have e1 : L1 = (ye_le H st.2.2.2.2 (st.1 222).toNat).1 := congrArg Prod.fst e
  have e2 : O1 = (ye_le H st.2.2.2.2 (st.1 222).toNat).2.1 := congrArg (fun q => q.2.1) e
  have e3 : P1 = (ye_le H st.2.2.2.2 (st.1 222).toNat).2.2 := congrArg (fun q => q.2.2) e
  show yq_S s m M0 _ (rv_up st.2.1 _ _) (rv_up st.2.2.1 _ _) (rv_up st.2.2.2.1 _ _) _ L1 O1 P1 M1
  rw [← e1, ← e2, ← e3]
  exact hC1
/-- the seed goes on; a draw of 100 -/
def ye_s1 (x : Int) : Int := (Int32.ofInt (Int32.ofInt x * Int32.ofInt 1103515245).toInt + Int32.ofInt 12345).toInt
def ye_sd (x : Int) : Nat → Int
  | 0 => x
  | k + 1 => ye_s1 (ye_sd x k)
theorem ye_sd_s {x : Int} {k : Nat} : ye_sd x (k + 1) = ye_s1 (ye_sd x k) := rfl
def ye_dr (x : Int) : Int := (Int32.ofInt (rv_s7 x 8) - Int32.ofInt (rv_s7 x 8) / Int32.ofInt 100 * Int32.ofInt 100).toInt
def ye_xs (x : Int) (k : Nat) : Int := ye_dr (ye_sd x (k + 1))
theorem ye_s7_b (x : Int) : 0 ≤ rv_s7 x 8 ∧ rv_s7 x 8 < 16777216 := by
  have h := pk_ushr (Int32.ofInt x) (Int32.ofInt 8) 8 (by decide)
  have hb : (Int32.ofInt x).toBitVec.toNat / 2 ^ 8 < 16777216 := by
    have := (Int32.ofInt x).toBitVec.isLt
    omega
  unfold rv_s7
  have e : (((Int32.ofInt x).toUInt32 >>> ((Int32.ofInt 8).toUInt32 &&& Int32.toUInt32 31)).toInt32).toInt = ((((Int32.ofInt x).toUInt32 >>> ((Int32.ofInt 8).toUInt32 &&& Int32.toUInt32 31)).toInt32).toBitVec.toNat : Int) := by
    show (((Int32.ofInt x).toUInt32 >>> ((Int32.ofInt 8).toUInt32 &&& Int32.toUInt32 31)).toInt32).toBitVec.toInt = _
    rw [BitVec.toInt_eq_toNat_of_lt (by rw [h]; omega)]
  rw [e, h]
  omega
theorem ye_dr_b (x : Int) : 0 ≤ ye_dr x ∧ ye_dr x ≤ 99 := by
  have b := ye_s7_b x
  have h := cs_irem (x := rv_s7 x 8) (t := 100) (z := ye_dr x) b.1 (by decide) ⟨by omega, by omega⟩ ⟨by decide, by decide⟩ rfl
  have e : ((100 : Int).toNat) = 100 := rfl
  rw [e] at h
  omega
section YT
variable {G : mj_G} {M M0 : mj_M} {s m : Nat} {H : Nat → Int} {st : ye_T} {z : Int} {a b k : Nat}
theorem yq_T.rf (h : yq_T s m M0 st M) (e : M0.2.2 a k = some b) : M.2.2 a k = some b := by
  obtain ⟨L, O, P, hC⟩ := h; exact hC.vr e
theorem yq_T.rb (h : yq_T s m M0 st M) (hL : yq_L G M0 s m H) : yq_T s m (mj_p0 M0 m 47 z) st (mj_p0 M m 47 z) := by
  obtain ⟨L, O, P, hC⟩ := h; exact ⟨L, O, P, hC.rb hL⟩
theorem yq_T.sd (h : yq_T s m (mj_p0 M0 m 47 z) st M) : M.1 m 47 = z := by
  obtain ⟨L, O, P, hC⟩ := h; exact (hC.2.2.1 47 (by decide) (by decide) (by decide)).trans hn_s
end YT
theorem r_wy0 {G : mj_G} {M0 : mj_M} {s m : Nat} {H : Nat → Int} {Q : mj_P} {d : Nat} (hL : yq_L G M0 s m H) (hH : ye_H2 H) : ∀ (n : Nat) (i : Int) (M : mj_M) (cb sb : Nat), i + n = 12 → 0 ≤ i → yq_T s m M0 (ye_it H (fun _ => 0) (ye_fr H) i.toNat) M → (∀ M, yq_T s m M0 (ye_it H (fun _ => 0) (ye_fr H) 12) M → Q none G M) → wz (d + 4) mt_X12_wholeYear.2.2.2.2.1 Q (mt_X12_wholeYear.2.2.2.2.1.drop 4) [some (.inr (.inr (some m))), some (.inl 0), some (.inl i)] [] G M cb sb := by
  have hf := ye_fr_ok hH
  intro n
  induction n with
  | zero =>
    intro i M cb sb e i0 hT h
    obtain rfl : i = 12 := by omega
    refine w_iln rfl ?_
    refine w_bp ?_
    refine w_cmge (fun c1 => ?_) (fun c1 => ?_)
    · skip
      exact w_ret (h _ hT)
    · exfalso; omega
  | succ n ih =>
    intro i M cb sb e i0 hT h
    have hok := ye_it_ok hH.1 hf.1 (xs := (fun _ => 0)) (fun _ => ⟨Int.le_refl 0, by decide⟩) i.toNat (by rw [hf.2]; omega)
    have h22 : (ye_it H (fun _ => 0) (ye_fr H) i.toNat).1 222 ≤ 11 := by rw [hok.2, hf.2]; omega
    have et : (i + 1).toNat = i.toNat + 1 := by omega
    refine w_iln rfl ?_
    refine w_bp ?_
    refine w_cmge (fun c1 => ?_) (fun c1 => ?_)
    · exfalso; omega
    · skip
      refine w_aln rfl ?_
      refine w_iln rfl ?_
      refine w_ifeq (fun c2 => ?_) (fun c2 => ?_)
      · skip
        refine w_ic ?_
        refine w_cv (st := []) rfl hL.gm rfl (Nat.le_of_ble_eq_true rfl) (fun kk h => h) (r_monthT (d := d) hL hT hH.1 hok.1 h22 ⟨Int.le_refl 0, by decide⟩ (fun M1 hT1 => ?_))
        refine w_ii rfl ⟨by show (-2147483648 : Int) ≤ i + 1; omega, by show i + 1 < (2147483648 : Int); omega⟩ ?_
        show wz _ _ _ _ [some (.inr (.inr (some m))), some (.inl 0), some (.inl (i + 1))] _ _ _ _ _
        refine w_goto ?_
        exact ih (i + 1) _ _ _ (by omega) (by omega) (by rw [et]; exact hT1) h
      · exfalso; omega
theorem r_X12_wholeYear0 {G : mj_G} {M0 : mj_M} {s m : Nat} {H : Nat → Int} {Q : mj_P} {d : Nat} (hL : yq_L G M0 s m H) (hH : ye_H2 H) (h : ∀ M, rq_Y s m (ye_it H (fun _ => 0) (ye_fr H) 12) M0 M → Q none G M) : mj_R mj_tab (d + 5) 258 [.inr (.inr (some m)), .inl 0] G M0 Q := by
  refine ⟨Nat.le_of_ble_eq_true rfl, ?_⟩
  show wz (d + 4) mt_X12_wholeYear.2.2.2.2.1 _ mt_X12_wholeYear.2.2.2.2.1 [some (.inr (.inr (some m))), some (.inl 0), none] [] G M0 _ _
  refine w_aln rfl ?_
  refine w_cv (st := []) rfl hL.gm rfl (Nat.le_of_ble_eq_true rfl) (fun kk h => h) (r_X12_beginsC (d := d + 2) hL.gm hL.gs hL.m6 (fun j hj => hL.vn hj) hH.1.1 hH.2 (fun M1 hZ => ?_))
  have hT1 : yq_T s m M1 (ye_fr H) M1 := hZ.T
  obtain ⟨z1, z2, z3, z4, -⟩ := hZ
  have em : M1.1 m = M0.1 m := z2 m (fun q => hL.sm q.symm)
  have hL1 : yq_L G M1 s m H := ⟨hL.gm, hL.gs, by rw [z1]; exact hL.m6, fun j hj => (z3 j (Or.inl hj)).trans (hL.vn hj), by rw [em]; exact hL.lk⟩
  refine w_ic ?_
  refine w_isn ?_
  show wz _ _ _ _ [some (.inr (.inr (some m))), some (.inl 0), some (.inl 0)] _ _ _ _ _
  refine r_wy0 (d := d) hL1 hH 12 0 _ _ _ (by decide) (by decide) hT1 (fun M2 hT2 => h M2 ?_)
  obtain ⟨L, O, P, c1, c2, c3, -, c5, c6, c7, c8⟩ := hT2
  exact ⟨c1.trans z1, fun a a1 a2 => (c2 a a1 a2).trans (z2 a a1), fun k k1 k2 k3 _ => (c3 k k1 k2 k3).trans (by rw [em]), fun j hj => (c5 j (by omega)).trans (z3 j hj), (c5 221 (by decide)).trans z4, c6, c7, c8⟩
  
theorem r_wy1 {G : mj_G} {M0 : mj_M} {s m : Nat} {H : Nat → Int} {z : Int} {Q : mj_P} {d : Nat} (hL : yq_L G M0 s m H) (hH : ye_H2 H) : ∀ (n : Nat) (i : Int) (M : mj_M) (cb sb : Nat), i + n = 12 → 0 ≤ i → yq_T s m (mj_p0 M0 m 47 (ye_sd z i.toNat)) (ye_it H (ye_xs z) (ye_fr H) i.toNat) M → (∀ M, yq_T s m (mj_p0 M0 m 47 (ye_sd z 12)) (ye_it H (ye_xs z) (ye_fr H) 12) M → Q none G M) → wz (d + 4) mt_X12_wholeYear.2.2.2.2.1 Q (mt_X12_wholeYear.2.2.2.2.1.drop 4) [some (.inr (.inr (some m))), some (.inl 1), some (.inl i)] [] G M cb sb := by
  have hf := ye_fr_ok hH
  intro n
  induction n with
  | zero =>
    intro i M cb sb e i0 hT h
    obtain rfl : i = 12 := by omega
    refine w_iln rfl ?_
    refine w_bp ?_
    refine w_cmge (fun c1 => ?_) (fun c1 => ?_)
    · skip
      exact w_ret (h _ hT)
    · exfalso; omega
  | succ n ih =>
    intro i M cb sb e i0 hT h
    have hok := ye_it_ok hH.1 hf.1 (xs := (ye_xs z)) (fun k => ye_dr_b _) i.toNat (by rw [hf.2]; omega)
    have h22 : (ye_it H (ye_xs z) (ye_fr H) i.toNat).1 222 ≤ 11 := by rw [hok.2, hf.2]; omega
    have et : (i + 1).toNat = i.toNat + 1 := by omega
    refine w_iln rfl ?_
    refine w_bp ?_
    refine w_cmge (fun c1 => ?_) (fun c1 => ?_)
    · exfalso; omega
    · skip
      refine w_aln rfl ?_
      refine w_iln rfl ?_
      refine w_ifeq (fun c2 => ?_) (fun c2 => ?_)
      · exfalso; omega
      · skip
        refine w_aln rfl ?_
        refine w_bp ?_
        refine w_cv (st := [.inr (.inr (some m))]) rfl hL.gm rfl (Nat.le_of_ble_eq_true rfl) (fun kk h => h) ⟨Nat.le_of_ble_eq_true rfl, ?_⟩
        show wz (d + 3) mt_X12_draw.2.2.2.2.1 _ mt_X12_draw.2.2.2.2.1 [some (.inr (.inr (some m))), some (.inl 100)] [] _ _ _ _
        refine w_aln rfl ?_
        refine w_aln rfl ?_
        refine w_gi hL.gm rfl (by decide) rfl hT.sd ?_
        refine w_ldcw ?_
        refine w_mulw ?_
        intro z1 hz1 ez1
        refine w_sp ?_
        refine w_addw ?_
        intro z2 hz2 ez2
        have e2 : z2 = ye_sd z (i.toNat + 1) := by
          rw [ez2, ez1, ye_sd_s]
          unfold ye_s1
          rfl
        rw [e2]
        refine w_pi hL.gm rfl (by decide) rfl (fun q => by cases q) ?_
        refine w_aln rfl ?_
        refine w_gi hL.gm rfl (by decide) rfl hn_s ?_
        refine w_bp ?_
        refine w_ushr ?_
        intro z3 hz3 ez3
        refine w_iln rfl ?_
        refine w_rem (by decide) ?_
        intro z4 hz4 ez4
        have e4 : z4 = ye_xs z i.toNat := by rw [ez4, ez3]; rfl
        rw [e4]
        refine w_iret (fun q => by cases q) ?_
        refine w_goto ?_
        have hT9 := hT.rb (z := ye_sd z (i.toNat + 1)) hL.sd
        rw [mj_p47] at hT9
        refine w_cv (st := []) rfl hL.gm rfl (Nat.le_of_ble_eq_true rfl) (fun kk h => h) (r_monthT (d := d) hL.sd hT9 hH.1 hok.1 h22 (ye_dr_b _) (fun M1 hT1 => ?_))
        refine w_ii rfl ⟨by show (-2147483648 : Int) ≤ i + 1; omega, by show i + 1 < (2147483648 : Int); omega⟩ ?_
        show wz _ _ _ _ [some (.inr (.inr (some m))), some (.inl 1), some (.inl (i + 1))] _ _ _ _ _
        refine w_goto ?_
        exact ih (i + 1) _ _ _ (by omega) (by omega) (by rw [et]; exact hT1) h
theorem r_X12_wholeYear1 {G : mj_G} {M0 : mj_M} {s m : Nat} {H : Nat → Int} {z : Int} {Q : mj_P} {d : Nat} (hL : yq_L G M0 s m H) (hH : ye_H2 H) (hs : M0.1 m 47 = z) (h : ∀ M, rq_Y s m (ye_it H (ye_xs z) (ye_fr H) 12) M0 M → Q none G M) : mj_R mj_tab (d + 5) 258 [.inr (.inr (some m)), .inl 1] G M0 Q := by
  refine ⟨Nat.le_of_ble_eq_true rfl, ?_⟩
  show wz (d + 4) mt_X12_wholeYear.2.2.2.2.1 _ mt_X12_wholeYear.2.2.2.2.1 [some (.inr (.inr (some m))), some (.inl 1), none] [] G M0 _ _
  refine w_aln rfl ?_
  refine w_cv (st := []) rfl hL.gm rfl (Nat.le_of_ble_eq_true rfl) (fun kk h => h) (r_X12_beginsC (d := d + 2) hL.gm hL.gs hL.m6 (fun j hj => hL.vn hj) hH.1.1 hH.2 (fun M1 hZ => ?_))
  have hT1 : yq_T s m M1 (ye_fr H) M1 := hZ.T
  obtain ⟨z1, z2, z3, z4, -⟩ := hZ
  have em : M1.1 m = M0.1 m := z2 m (fun q => hL.sm q.symm)
  have hL1 : yq_L G M1 s m H := ⟨hL.gm, hL.gs, by rw [z1]; exact hL.m6, fun j hj => (z3 j (Or.inl hj)).trans (hL.vn hj), by rw [em]; exact hL.lk⟩
  refine w_ic ?_
  refine w_isn ?_
  show wz _ _ _ _ [some (.inr (.inr (some m))), some (.inl 1), some (.inl 0)] _ _ _ _ _
  have hT0 := hT1.rb (z := z) hL1
  have e47 : mj_p0 M1 m 47 z = M1 := by
    have e : (mj_p0 M1 m 47 z).1 = M1.1 := funext fun x => funext fun j => by
      show (if x = m ∧ j = 47 then z else M1.1 x j) = M1.1 x j
      by_cases c : x = m ∧ j = 47
      · rw [if_pos c, c.1, c.2, em, hs]
      · rw [if_neg c]
    show ((mj_p0 M1 m 47 z).1, M1.2) = M1
    rw [e]
  refine r_wy1 (d := d) hL1 hH 12 0 _ _ _ (by decide) (by decide) (by show yq_T s m (mj_p0 M1 m 47 z) _ M1; rw [e47]; exact hT1) (fun M2 hT2 => h M2 ?_)
  obtain ⟨L, O, P, c1, c2, c3, -, c5, c6, c7, c8⟩ := hT2
  have es : (mj_p0 M1 m 47 (ye_sd z 12)).1 s = M1.1 s := wz_c hL.sm
  rw [es] at c5
  exact ⟨c1.trans z1, fun a a1 a2 => (c2 a a1 a2).trans ((wz_c a2).trans (z2 a a1)), fun k k1 k2 k3 k4 => (c3 k k1 k2 k3).trans ((hn_n (Or.inr k4)).trans (by rw [em])), fun j hj => (c5 j (by omega)).trans (z3 j hj), (c5 221 (by decide)).trans z4, c6, c7, c8⟩
  
end
