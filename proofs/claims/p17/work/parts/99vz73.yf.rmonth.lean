/-! ===== a MONTH of the reference as a whole (laid by a program) ===== -/
theorem r_hvR {G : mj_G} {M0 : mj_M} {s m : Nat} {H : Nat → Int} {g A B C : Nat → Int} {R : Nat → Nat → Int} {L O P : Int} {Q : mj_P} {d : Nat} {x mi : Int} {y3 y4 : Option mj_V} {y5 : Int} (hL : yq_L G M0 s m H) (hH : 0 ≤ H 0 ∧ H 0 ≤ 8) (hT : ∀ j, 4 ≤ j → j < 76 → 0 ≤ H j ∧ H j ≤ 999) (h8 : ∀ t, t < 8 → 0 ≤ R t 8 ∧ R t 8 ≤ 12) (h9 : ∀ t, t < 8 → 0 ≤ R t 9 ∧ R t 9 ≤ 12000) (h1 : ∀ t, t < 8 → 0 ≤ R t 1 ∧ R t 1 ≤ 1000000) : ∀ (n : Nat) (i : Int) (M : mj_M) (cb sb : Nat), i + n = H 0 → 0 ≤ i → yq_S s m M0 g A B C (ye_R4 H R i.toNat) L O P M → (∀ M, yq_S s m M0 g A B C (ye_R4 H R (H 0).toNat) L O P M → Q none G M) → wz (d + 3) mt_X12_month.2.2.2.2.1 Q (mt_X12_month.2.2.2.2.1.drop 275) [some (.inr (.inr (some m))), some (.inl x), some (.inl mi), y3, y4, some (.inl y5), some (.inl i)] [] G M cb sb := by
  intro n
  induction n with
  | zero =>
    intro i M cb sb e i0 hC h
    obtain rfl : i = H 0 := by omega
    refine w_il rfl ?_
    refine w_aln rfl ?_
    refine w_gr hL.gm rfl (by decide) rfl (hC.vr hL.m6) ?_
    refine w_ic ?_
    refine w_iald (v := (H 0)) hL.gs rfl (by show (0 : Int) ≤ 0; omega) (by show 0 < ((537 : Nat) : Int); omega) (hC.vn hL (by show (0 : Int).toNat = 0; omega) (by decide)) ?_
    refine w_cmge (fun c1 => ?_) (fun c1 => ?_)
    · skip
      exact w_ret (h _ hC)
    · exfalso; omega
  | succ n ih =>
    intro i M cb sb e i0 hC h
    have t8 := hT (12 + 9 * i.toNat) (by omega) (by omega)
    have er : ye_R4 H R i.toNat i.toNat = R i.toNat := ye_R4_k
    have et : (i + 1).toNat = i.toNat + 1 := by omega
    have q8 : 0 ≤ ye_R4 H R i.toNat i.toNat 8 ∧ ye_R4 H R i.toNat i.toNat 8 ≤ 12 := by rw [er]; exact h8 _ (by omega)
    have q9 : 0 ≤ ye_R4 H R i.toNat i.toNat 9 ∧ ye_R4 H R i.toNat i.toNat 9 ≤ 12000 := by rw [er]; exact h9 _ (by omega)
    have q1 : 0 ≤ ye_R4 H R i.toNat i.toNat 1 ∧ ye_R4 H R i.toNat i.toNat 1 ≤ 1000000 := by rw [er]; exact h1 _ (by omega)
    revert hC q8 q1 q9
    generalize eF : ye_R4 H R i.toNat = F at er
    intro hC q8 q1 q9
    refine w_il rfl ?_
    refine w_aln rfl ?_
    refine w_gr hL.gm rfl (by decide) rfl (hC.vr hL.m6) ?_
    refine w_ic ?_
    refine w_iald (v := (H 0)) hL.gs rfl (by show (0 : Int) ≤ 0; omega) (by show 0 < ((537 : Nat) : Int); omega) (hC.vn hL (by show (0 : Int).toNat = 0; omega) (by decide)) ?_
    refine w_cmge (fun c1 => ?_) (fun c1 => ?_)
    · exfalso; omega
    · skip
      refine w_aln rfl ?_
      refine w_il rfl ?_
      refine w_bp ?_
      refine w_aln rfl ?_
      refine w_il rfl ?_
      refine w_bp ?_
      refine w_cv (st := [.inl 9, .inl i, .inr (.inr (some m))]) rfl hL.gm rfl (Nat.le_of_ble_eq_true rfl) (fun kk h => h) ⟨Nat.le_of_ble_eq_true rfl, ?_⟩
      show wz (d + 2) mt_X12_toldOf.2.2.2.2.1 _ mt_X12_toldOf.2.2.2.2.1 [some (.inr (.inr (some m))), some (.inl i), some (.inl 8)] [] _ _ _ _
      refine w_aln rfl ?_
      refine w_gr hL.gm rfl (by decide) rfl (hC.vr hL.m6) ?_
      refine w_ic ?_
      refine w_bp ?_
      refine w_iln rfl ?_
      refine w_mul ⟨by show (-2147483648 : Int) ≤ 9 * i; omega, by show 9 * i < (2147483648 : Int); omega⟩ ?_
      refine w_add ⟨by show (-2147483648 : Int) ≤ 4 + (9 * i); omega, by show 4 + (9 * i) < (2147483648 : Int); omega⟩ ?_
      refine w_iln rfl ?_
      refine w_add ⟨by show (-2147483648 : Int) ≤ (4 + (9 * i)) + 8; omega, by show (4 + (9 * i)) + 8 < (2147483648 : Int); omega⟩ ?_
      refine w_iald (v := (H (12 + 9 * i.toNat))) hL.gs rfl (by show (0 : Int) ≤ (4 + (9 * i)) + 8; omega) (by show (4 + (9 * i)) + 8 < ((537 : Nat) : Int); omega) (hC.vn hL (by show ((4 + (9 * i)) + 8).toNat = 12 + 9 * i.toNat; omega) (by show 12 + 9 * i.toNat < 221; omega)) ?_
      refine w_iret (fun q => by cases q) ?_
      refine w_aln rfl ?_
      refine w_il rfl ?_
      refine w_bp ?_
      refine w_cv (st := [.inl (H (12 + 9 * i.toNat)), .inl 9, .inl i, .inr (.inr (some m))]) rfl hL.gm rfl (Nat.le_of_ble_eq_true rfl) (fun kk h => h) ⟨Nat.le_of_ble_eq_true rfl, ?_⟩
      show wz (d + 2) mt_X12_of.2.2.2.2.1 _ mt_X12_of.2.2.2.2.1 [some (.inr (.inr (some m))), some (.inl i), some (.inl 8)] [] _ _ _ _
      refine w_aln rfl ?_
      refine w_gr hL.gm rfl (by decide) rfl (hC.vr hL.m6) ?_
      refine w_sp ?_
      refine w_bp ?_
      refine w_iln rfl ?_
      refine w_mul ⟨by show (-2147483648 : Int) ≤ 11 * i; omega, by show 11 * i < (2147483648 : Int); omega⟩ ?_
      refine w_add ⟨by show (-2147483648 : Int) ≤ 232 + (11 * i); omega, by show 232 + (11 * i) < (2147483648 : Int); omega⟩ ?_
      refine w_iln rfl ?_
      refine w_add ⟨by show (-2147483648 : Int) ≤ (232 + (11 * i)) + 8; omega, by show (232 + (11 * i)) + 8 < (2147483648 : Int); omega⟩ ?_
      refine w_iald (v := (F i.toNat 8)) hL.gs rfl (by show (0 : Int) ≤ (232 + (11 * i)) + 8; omega) (by show (232 + (11 * i)) + 8 < ((537 : Nat) : Int); omega) (hC.vR (w := 8) (by show ((232 + (11 * i)) + 8).toNat = 232 + 11 * i.toNat + 8; omega) (by show i.toNat < 8; omega) (by decide)) ?_
      refine w_iret (fun q => by cases q) ?_
      have hq2 : 0 ≤ (H (12 + 9 * i.toNat)) * (F i.toNat 8) ∧ (H (12 + 9 * i.toNat)) * (F i.toNat 8) ≤ 11988 := ye_mul9 (by omega) (by omega) (by omega) (by omega)
      refine w_mul ⟨by show (-2147483648 : Int) ≤ (H (12 + 9 * i.toNat)) * (F i.toNat 8); omega, by show (H (12 + 9 * i.toNat)) * (F i.toNat 8) < (2147483648 : Int); omega⟩ ?_
      refine w_cv (st := []) rfl hL.gm rfl (Nat.le_of_ble_eq_true rfl) (fun kk h => h) ⟨Nat.le_of_ble_eq_true rfl, ?_⟩
      show wz (d + 2) mt_X12_more.2.2.2.2.1 _ mt_X12_more.2.2.2.2.1 [some (.inr (.inr (some m))), some (.inl i), some (.inl 9), some (.inl ((H (12 + 9 * i.toNat)) * (F i.toNat 8)))] [] _ _ _ _
      refine w_aln rfl ?_
      refine w_gr hL.gm rfl (by decide) rfl (hC.vr hL.m6) ?_
      refine w_sp ?_
      refine w_bp ?_
      refine w_iln rfl ?_
      refine w_mul ⟨by show (-2147483648 : Int) ≤ 11 * i; omega, by show 11 * i < (2147483648 : Int); omega⟩ ?_
      refine w_add ⟨by show (-2147483648 : Int) ≤ 232 + (11 * i); omega, by show 232 + (11 * i) < (2147483648 : Int); omega⟩ ?_
      refine w_iln rfl ?_
      refine w_add ⟨by show (-2147483648 : Int) ≤ (232 + (11 * i)) + 9; omega, by show (232 + (11 * i)) + 9 < (2147483648 : Int); omega⟩ ?_
      refine w_dup2 ?_
      refine w_iald (v := (F i.toNat 9)) hL.gs rfl (by show (0 : Int) ≤ (232 + (11 * i)) + 9; omega) (by show (232 + (11 * i)) + 9 < ((537 : Nat) : Int); omega) (hC.vR (w := 9) (by show ((232 + (11 * i)) + 9).toNat = 232 + 11 * i.toNat + 9; omega) (by show i.toNat < 8; omega) (by decide)) ?_
      refine w_iln rfl ?_
      refine w_add ⟨by show (-2147483648 : Int) ≤ (F i.toNat 9) + ((H (12 + 9 * i.toNat)) * (F i.toNat 8)); omega, by show (F i.toNat 9) + ((H (12 + 9 * i.toNat)) * (F i.toNat 8)) < (2147483648 : Int); omega⟩ ?_
      refine w_iast hL.gs rfl (by decide) (by show (0 : Int) ≤ (232 + (11 * i)) + 9; omega) (by show (232 + (11 * i)) + 9 < ((537 : Nat) : Int); omega) ?_
      have hC3 := hC.op i.toNat
      have hC4 := hC3.pr (w := 9) (v := (F i.toNat 9) + ((H (12 + 9 * i.toNat)) * (F i.toNat 8))) hL (by show ((232 + (11 * i)) + 9).toNat = 232 + 11 * i.toNat + 9; omega) (by show i.toNat < 8; omega) (by decide)
      refine w_ret ?_
      refine w_aln rfl ?_
      refine w_il rfl ?_
      refine w_ic ?_
      refine w_aln rfl ?_
      refine w_il rfl ?_
      refine w_bp ?_
      refine w_cv (st := [.inl 1, .inl i, .inr (.inr (some m))]) rfl hL.gm rfl (Nat.le_of_ble_eq_true rfl) (fun kk h => h) ⟨Nat.le_of_ble_eq_true rfl, ?_⟩
      show wz (d + 2) mt_X12_of.2.2.2.2.1 _ mt_X12_of.2.2.2.2.1 [some (.inr (.inr (some m))), some (.inl i), some (.inl 9)] [] _ _ _ _
      refine w_aln rfl ?_
      refine w_gr hL.gm rfl (by decide) rfl (hC4.vr hL.m6) ?_
      refine w_sp ?_
      refine w_bp ?_
      refine w_iln rfl ?_
      refine w_mul ⟨by show (-2147483648 : Int) ≤ 11 * i; omega, by show 11 * i < (2147483648 : Int); omega⟩ ?_
      refine w_add ⟨by show (-2147483648 : Int) ≤ 232 + (11 * i); omega, by show 232 + (11 * i) < (2147483648 : Int); omega⟩ ?_
      refine w_iln rfl ?_
      refine w_add ⟨by show (-2147483648 : Int) ≤ (232 + (11 * i)) + 9; omega, by show (232 + (11 * i)) + 9 < (2147483648 : Int); omega⟩ ?_
      refine w_iald (v := (F i.toNat 9) + ((H (12 + 9 * i.toNat)) * (F i.toNat 8))) hL.gs rfl (by show (0 : Int) ≤ (232 + (11 * i)) + 9; omega) (by show (232 + (11 * i)) + 9 < ((537 : Nat) : Int); omega) ((hC4.rr (w := 9) (by show ((232 + (11 * i)) + 9).toNat = 232 + 11 * i.toNat + 9; omega) (by show i.toNat < 8; omega) (by decide)).trans (rv_up_s)) ?_
      refine w_iret (fun q => by cases q) ?_
      refine w_cv (st := []) rfl hL.gm rfl (Nat.le_of_ble_eq_true rfl) (fun kk h => h) ⟨Nat.le_of_ble_eq_true rfl, ?_⟩
      show wz (d + 2) mt_X12_more.2.2.2.2.1 _ mt_X12_more.2.2.2.2.1 [some (.inr (.inr (some m))), some (.inl i), some (.inl 1), some (.inl ((F i.toNat 9) + ((H (12 + 9 * i.toNat)) * (F i.toNat 8))))] [] _ _ _ _
      refine w_aln rfl ?_
      refine w_gr hL.gm rfl (by decide) rfl (hC4.vr hL.m6) ?_
      refine w_sp ?_
      refine w_bp ?_
      refine w_iln rfl ?_
      refine w_mul ⟨by show (-2147483648 : Int) ≤ 11 * i; omega, by show 11 * i < (2147483648 : Int); omega⟩ ?_
      refine w_add ⟨by show (-2147483648 : Int) ≤ 232 + (11 * i); omega, by show 232 + (11 * i) < (2147483648 : Int); omega⟩ ?_
      refine w_iln rfl ?_
      refine w_add ⟨by show (-2147483648 : Int) ≤ (232 + (11 * i)) + 1; omega, by show (232 + (11 * i)) + 1 < (2147483648 : Int); omega⟩ ?_
      refine w_dup2 ?_
      refine w_iald (v := (F i.toNat 1)) hL.gs rfl (by show (0 : Int) ≤ (232 + (11 * i)) + 1; omega) (by show (232 + (11 * i)) + 1 < ((537 : Nat) : Int); omega) ((hC4.rr (w := 1) (by show ((232 + (11 * i)) + 1).toNat = 232 + 11 * i.toNat + 1; omega) (by show i.toNat < 8; omega) (by decide)).trans ((rv_up_n (by decide)))) ?_
      refine w_iln rfl ?_
      refine w_add ⟨by show (-2147483648 : Int) ≤ (F i.toNat 1) + ((F i.toNat 9) + ((H (12 + 9 * i.toNat)) * (F i.toNat 8))); omega, by show (F i.toNat 1) + ((F i.toNat 9) + ((H (12 + 9 * i.toNat)) * (F i.toNat 8))) < (2147483648 : Int); omega⟩ ?_
      refine w_iast hL.gs rfl (by decide) (by show (0 : Int) ≤ (232 + (11 * i)) + 1; omega) (by show (232 + (11 * i)) + 1 < ((537 : Nat) : Int); omega) ?_
      have hC5 := hC4.pr (w := 1) (v := (F i.toNat 1) + ((F i.toNat 9) + ((H (12 + 9 * i.toNat)) * (F i.toNat 8)))) hL (by show ((232 + (11 * i)) + 1).toNat = 232 + 11 * i.toNat + 1; omega) (by show i.toNat < 8; omega) (by decide)
      refine w_ret ?_
      refine w_ii rfl ⟨by show (-2147483648 : Int) ≤ i + 1; omega, by show i + 1 < (2147483648 : Int); omega⟩ ?_
      show wz _ _ _ _ [some (.inr (.inr (some m))), some (.inl x), some (.inl mi), y3, y4, some (.inl y5), some (.inl (i + 1))] _ _ _ _ _
      refine w_goto ?_
      refine ih (i + 1) _ _ _ (by omega) (by omega) (hC5.cg (fun _ _ _ => rfl) ?_) h
      rw [et, ye_R4_s, eF]
      refine ye_ru_c (ye_11 ?_ ?_ ?_ ?_ ?_ ?_ ?_ ?_ ?_ ?_ ?_)
      · refine ((rv_up_n (by decide)).trans ((rv_up_n (by decide)))).trans (Eq.trans (b := R i.toNat 0) ?_ rfl)
        rw [er]
      · refine (rv_up_s).trans (Eq.trans (b := R i.toNat 1 + (R i.toNat 9 + H (12 + 9 * i.toNat) * R i.toNat 8)) ?_ rfl)
        rw [er]
      · refine ((rv_up_n (by decide)).trans ((rv_up_n (by decide)))).trans (Eq.trans (b := R i.toNat 2) ?_ rfl)
        rw [er]
      · refine ((rv_up_n (by decide)).trans ((rv_up_n (by decide)))).trans (Eq.trans (b := R i.toNat 3) ?_ rfl)
        rw [er]
      · refine ((rv_up_n (by decide)).trans ((rv_up_n (by decide)))).trans (Eq.trans (b := R i.toNat 4) ?_ rfl)
        rw [er]
      · refine ((rv_up_n (by decide)).trans ((rv_up_n (by decide)))).trans (Eq.trans (b := R i.toNat 5) ?_ rfl)
        rw [er]
      · refine ((rv_up_n (by decide)).trans ((rv_up_n (by decide)))).trans (Eq.trans (b := R i.toNat 6) ?_ rfl)
        rw [er]
      · refine ((rv_up_n (by decide)).trans ((rv_up_n (by decide)))).trans (Eq.trans (b := R i.toNat 7) ?_ rfl)
        rw [er]
      · refine ((rv_up_n (by decide)).trans ((rv_up_n (by decide)))).trans (Eq.trans (b := R i.toNat 8) ?_ rfl)
        rw [er]
      · refine ((rv_up_n (by decide)).trans (rv_up_s)).trans (Eq.trans (b := R i.toNat 9 + H (12 + 9 * i.toNat) * R i.toNat 8) ?_ rfl)
        rw [er]
      · refine ((rv_up_n (by decide)).trans ((rv_up_n (by decide)))).trans (Eq.trans (b := R i.toNat 10) ?_ rfl)
        rw [er]
      
section YF
variable {H : Nat → Int} {R : Nat → Nat → Int} {L O : Int} {k : Nat}
/-- the reference's rows while the TOWNS use: mills are paid as each TOWN's turn comes -/
def ye_Rq (H : Nat → Int) (L O : Int) (R : Nat → Nat → Int) (k : Nat) : Nat → Nat → Int := fun t => if t < k then ye_dk H t (ye_ml H L O R t) else R t
theorem ye_Rq_0 : ye_Rq H L O R 0 = R := funext fun t => by unfold ye_Rq; rw [if_neg (by omega)]
theorem ye_Rq_k : ye_Rq H L O R k k = R k := by unfold ye_Rq; rw [if_neg (by omega)]
theorem ye_Rq_s : ye_Rq H L O R (k + 1) = ye_ru (ye_Rq H L O R k) k (ye_dk H k (ye_ml H L O R k)) := funext fun t => by
  by_cases e : t = k
  · subst e; rw [ye_ru_s]; unfold ye_Rq; rw [if_pos (by omega)]
  · rw [ye_ru_n e]; unfold ye_Rq
    by_cases c : t < k
    · rw [if_pos c, if_pos (by omega)]
    · rw [if_neg c, if_neg (by omega)]
theorem ye_Rq_n (h0 : 0 ≤ H 0 ∧ H 0 ≤ 8) (hl : L = 8 ∨ (0 ≤ L ∧ L < H 0)) (ho : O = -1 ∨ (0 ≤ O ∧ O < H 0)) : ∀ t w, t < 8 → w < 11 → ye_Rq H L O R (H 0).toNat t w = ye_R3 H (ye_ml H L O R) (H 0).toNat t w := fun t w ht _ => by
  unfold ye_Rq ye_R3
  by_cases c : t < (H 0).toNat
  · rw [if_pos c, if_pos c]
  · rw [if_neg c, if_neg c]
    unfold ye_ml
    rw [if_neg (by omega)]
end YF
theorem r_usR {G : mj_G} {M0 : mj_M} {s m : Nat} {H : Nat → Int} {g A B C : Nat → Int} {R : Nat → Nat → Int} {L O P : Int} {Q : mj_P} {d : Nat} {x mi : Int} {y3 y4 : Option mj_V} {y5 : Int} (hL : yq_L G M0 s m H) (hH : 0 ≤ H 0 ∧ H 0 ≤ 8) (hT : ∀ j, 4 ≤ j → j < 76 → 0 ≤ H j ∧ H j ≤ 999) (h3 : 1 ≤ H 3 ∧ H 3 ≤ 12) (m0 : 0 ≤ mi ∧ mi ≤ 11) (hl : L = 8 ∨ (0 ≤ L ∧ L < H 0)) (ho : O = -1 ∨ (0 ≤ O ∧ O < H 0)) (hF : ∀ t, t < 8 → ye_r2 H mi t (ye_ml H L O R t)) (hb : ∀ t, t < 8 → (-1000000 ≤ R t 1 ∧ R t 1 ≤ 1000000) ∧ (-1000000 ≤ R t 4 ∧ R t 4 ≤ 1000000)) (b7 : -1000000 ≤ g 227 ∧ g 227 ≤ 1000000) (b9 : -1000000 ≤ g 229 ∧ g 229 ≤ 1000000) : ∀ (n : Nat) (i : Int) (M : mj_M) (cb sb : Nat), i + n = H 0 → 0 ≤ i → yq_S s m M0 (ye_g3 H (ye_ml H L O R) g i.toNat) A B C (ye_Rq H L O R i.toNat) L O P M → (∀ M, yq_S s m M0 (ye_g3 H (ye_ml H L O R) g (H 0).toNat) A B C (ye_Rq H L O R (H 0).toNat) L O P M → wz (d + 3) mt_X12_month.2.2.2.2.1 Q (mt_X12_month.2.2.2.2.1.drop 258) [some (.inr (.inr (some m))), some (.inl x), some (.inl mi), y3, y4, some (.inl y5), some (.inl (H 0))] [] G M cb sb) → wz (d + 3) mt_X12_month.2.2.2.2.1 Q (mt_X12_month.2.2.2.2.1.drop 199) [some (.inr (.inr (some m))), some (.inl x), some (.inl mi), y3, y4, some (.inl y5), some (.inl i)] [] G M cb sb := by
  intro n
  induction n with
  | zero =>
    intro i M cb sb e i0 hC h
    obtain rfl : i = H 0 := by omega
    refine w_il rfl ?_
    refine w_aln rfl ?_
    refine w_gr hL.gm rfl (by decide) rfl (hC.vr hL.m6) ?_
    refine w_ic ?_
    refine w_iald (v := (H 0)) hL.gs rfl (by show (0 : Int) ≤ 0; omega) (by show 0 < ((537 : Nat) : Int); omega) (hC.vn hL (by show (0 : Int).toNat = 0; omega) (by decide)) ?_
    refine w_cmge (fun c1 => ?_) (fun c1 => ?_)
    · skip
      exact h _ hC
    · exfalso; omega
  | succ n ih =>
    intro i M cb sb e i0 hC h
    have er : ye_Rq H L O R i.toNat i.toNat = R i.toNat := ye_Rq_k
    have et : (i + 1).toNat = i.toNat + 1 := by omega
    have hf : ∀ j, j < 8 → (0 ≤ (fun t => ye_u H t (ye_ml H L O R t) + ye_fl H t (ye_ml H L O R t)) j ∧ (fun t => ye_u H t (ye_ml H L O R t) + ye_fl H t (ye_ml H L O R t)) j ≤ 1998) ∧ (0 ≤ (fun t => ye_sp H t (ye_ml H L O R t)) j ∧ (fun t => ye_sp H t (ye_ml H L O R t)) j ≤ 999) := fun j hj => (ye_dk_b hT h3.1 hj (hF j hj)).2
    have s7 := ye_sm_b (fun j hj => (hf j hj).1) i.toNat (by omega)
    have s9 := ye_sm_b (fun j hj => (hf j hj).2) i.toNat (by omega)
    have g7 : ye_g3 H (ye_ml H L O R) g i.toNat 227 = g 227 + ye_sm (fun t => ye_u H t (ye_ml H L O R t) + ye_fl H t (ye_ml H L O R t)) i.toNat := (rv_up_n (by decide)).trans rv_up_s
    have g9 : ye_g3 H (ye_ml H L O R) g i.toNat 229 = g 229 + ye_sm (fun t => ye_sp H t (ye_ml H L O R t)) i.toNat := rv_up_s
    obtain ⟨f0, f1, f2, f3, f4, f5, f6, f7, f8, f9, f10⟩ := hF i.toNat (by omega)
    have t5 := hT (5 + 9 * i.toNat) (by omega) (by omega)
    have t9 := hT (9 + 9 * i.toNat) (by omega) (by omega)
    have q1 : -1000000 ≤ ye_Rq H L O R i.toNat i.toNat 1 ∧ ye_Rq H L O R i.toNat i.toNat 1 ≤ 1000000 := by rw [er]; exact (hb _ (by omega)).1
    have q4 : -1000000 ≤ ye_Rq H L O R i.toNat i.toNat 4 ∧ ye_Rq H L O R i.toNat i.toNat 4 ≤ 1000000 := by rw [er]; exact (hb _ (by omega)).2
    refine w_il rfl ?_
    refine w_aln rfl ?_
    refine w_gr hL.gm rfl (by decide) rfl (hC.vr hL.m6) ?_
    refine w_ic ?_
    refine w_iald (v := (H 0)) hL.gs rfl (by show (0 : Int) ≤ 0; omega) (by show 0 < ((537 : Nat) : Int); omega) (hC.vn hL (by show (0 : Int).toNat = 0; omega) (by decide)) ?_
    refine w_cmge (fun c1 => ?_) (fun c1 => ?_)
    · exfalso; omega
    · skip
      refine w_il rfl ?_
      refine w_aln rfl ?_
      refine w_gi hL.gm rfl (by decide) rfl (hC.2.2.2.1.1) ?_
      refine w_cmeq (fun c2 => ?_) (fun c2 => ?_)
      · skip
        refine w_aln rfl ?_
        refine w_il rfl ?_
        refine w_ic ?_
        refine w_aln rfl ?_
        refine w_il rfl ?_
        refine w_ic ?_
        refine w_cv (st := [.inl 1, .inl i, .inr (.inr (some m))]) rfl hL.gm rfl (Nat.le_of_ble_eq_true rfl) (fun kk h => h) ⟨Nat.le_of_ble_eq_true rfl, ?_⟩
        show wz (d + 2) mt_X12_toldOf.2.2.2.2.1 _ mt_X12_toldOf.2.2.2.2.1 [some (.inr (.inr (some m))), some (.inl i), some (.inl 5)] [] _ _ _ _
        refine w_aln rfl ?_
        refine w_gr hL.gm rfl (by decide) rfl (hC.vr hL.m6) ?_
        refine w_ic ?_
        refine w_bp ?_
        refine w_iln rfl ?_
        refine w_mul ⟨by show (-2147483648 : Int) ≤ 9 * i; omega, by show 9 * i < (2147483648 : Int); omega⟩ ?_
        refine w_add ⟨by show (-2147483648 : Int) ≤ 4 + (9 * i); omega, by show 4 + (9 * i) < (2147483648 : Int); omega⟩ ?_
        refine w_iln rfl ?_
        refine w_add ⟨by show (-2147483648 : Int) ≤ (4 + (9 * i)) + 5; omega, by show (4 + (9 * i)) + 5 < (2147483648 : Int); omega⟩ ?_
        refine w_iald (v := (H (9 + 9 * i.toNat))) hL.gs rfl (by show (0 : Int) ≤ (4 + (9 * i)) + 5; omega) (by show (4 + (9 * i)) + 5 < ((537 : Nat) : Int); omega) (hC.vn hL (by show ((4 + (9 * i)) + 5).toNat = 9 + 9 * i.toNat; omega) (by show 9 + 9 * i.toNat < 221; omega)) ?_
        refine w_iret (fun q => by cases q) ?_
        refine w_cv (st := []) rfl hL.gm rfl (Nat.le_of_ble_eq_true rfl) (fun kk h => h) ⟨Nat.le_of_ble_eq_true rfl, ?_⟩
        show wz (d + 2) mt_X12_more.2.2.2.2.1 _ mt_X12_more.2.2.2.2.1 [some (.inr (.inr (some m))), some (.inl i), some (.inl 1), some (.inl (H (9 + 9 * i.toNat)))] [] _ _ _ _
        refine w_aln rfl ?_
        refine w_gr hL.gm rfl (by decide) rfl (hC.vr hL.m6) ?_
        refine w_sp ?_
        refine w_bp ?_
        refine w_iln rfl ?_
        refine w_mul ⟨by show (-2147483648 : Int) ≤ 11 * i; omega, by show 11 * i < (2147483648 : Int); omega⟩ ?_
        refine w_add ⟨by show (-2147483648 : Int) ≤ 232 + (11 * i); omega, by show 232 + (11 * i) < (2147483648 : Int); omega⟩ ?_
        refine w_iln rfl ?_
        refine w_add ⟨by show (-2147483648 : Int) ≤ (232 + (11 * i)) + 1; omega, by show (232 + (11 * i)) + 1 < (2147483648 : Int); omega⟩ ?_
        refine w_dup2 ?_
        refine w_iald (v := ((ye_Rq H L O R i.toNat) i.toNat 1)) hL.gs rfl (by show (0 : Int) ≤ (232 + (11 * i)) + 1; omega) (by show (232 + (11 * i)) + 1 < ((537 : Nat) : Int); omega) (hC.vR (w := 1) (by show ((232 + (11 * i)) + 1).toNat = 232 + 11 * i.toNat + 1; omega) (by show i.toNat < 8; omega) (by decide)) ?_
        refine w_iln rfl ?_
        refine w_add ⟨by show (-2147483648 : Int) ≤ ((ye_Rq H L O R i.toNat) i.toNat 1) + (H (9 + 9 * i.toNat)); omega, by show ((ye_Rq H L O R i.toNat) i.toNat 1) + (H (9 + 9 * i.toNat)) < (2147483648 : Int); omega⟩ ?_
        refine w_iast hL.gs rfl (by decide) (by show (0 : Int) ≤ (232 + (11 * i)) + 1; omega) (by show (232 + (11 * i)) + 1 < ((537 : Nat) : Int); omega) ?_
        have hC3 := hC.op i.toNat
        have hC4 := hC3.pr (w := 1) (v := ((ye_Rq H L O R i.toNat) i.toNat 1) + (H (9 + 9 * i.toNat))) hL (by show ((232 + (11 * i)) + 1).toNat = 232 + 11 * i.toNat + 1; omega) (by show i.toNat < 8; omega) (by decide)
        refine w_ret ?_
        refine w_aln rfl ?_
        refine w_il rfl ?_
        refine w_ic ?_
        refine w_ic ?_
        refine w_cv (st := []) rfl hL.gm rfl (Nat.le_of_ble_eq_true rfl) (fun kk h => h) ⟨Nat.le_of_ble_eq_true rfl, ?_⟩
        show wz (d + 2) mt_X12_more.2.2.2.2.1 _ mt_X12_more.2.2.2.2.1 [some (.inr (.inr (some m))), some (.inl i), some (.inl 4), some (.inl 1)] [] _ _ _ _
        refine w_aln rfl ?_
        refine w_gr hL.gm rfl (by decide) rfl (hC4.vr hL.m6) ?_
        refine w_sp ?_
        refine w_bp ?_
        refine w_iln rfl ?_
        refine w_mul ⟨by show (-2147483648 : Int) ≤ 11 * i; omega, by show 11 * i < (2147483648 : Int); omega⟩ ?_
        refine w_add ⟨by show (-2147483648 : Int) ≤ 232 + (11 * i); omega, by show 232 + (11 * i) < (2147483648 : Int); omega⟩ ?_
        refine w_iln rfl ?_
        refine w_add ⟨by show (-2147483648 : Int) ≤ (232 + (11 * i)) + 4; omega, by show (232 + (11 * i)) + 4 < (2147483648 : Int); omega⟩ ?_
        refine w_dup2 ?_
        refine w_iald (v := ((ye_Rq H L O R i.toNat) i.toNat 4)) hL.gs rfl (by show (0 : Int) ≤ (232 + (11 * i)) + 4; omega) (by show (232 + (11 * i)) + 4 < ((537 : Nat) : Int); omega) ((hC4.rr (w := 4) (by show ((232 + (11 * i)) + 4).toNat = 232 + 11 * i.toNat + 4; omega) (by show i.toNat < 8; omega) (by decide)).trans ((rv_up_n (by decide)))) ?_
        refine w_iln rfl ?_
        refine w_add ⟨by show (-2147483648 : Int) ≤ ((ye_Rq H L O R i.toNat) i.toNat 4) + 1; omega, by show ((ye_Rq H L O R i.toNat) i.toNat 4) + 1 < (2147483648 : Int); omega⟩ ?_
        refine w_iast hL.gs rfl (by decide) (by show (0 : Int) ≤ (232 + (11 * i)) + 4; omega) (by show (232 + (11 * i)) + 4 < ((537 : Nat) : Int); omega) ?_
        have hC5 := hC4.pr (w := 4) (v := ((ye_Rq H L O R i.toNat) i.toNat 4) + 1) hL (by show ((232 + (11 * i)) + 4).toNat = 232 + 11 * i.toNat + 4; omega) (by show i.toNat < 8; omega) (by decide)
        refine w_ret ?_
        refine w_aln rfl ?_
        refine w_il rfl ?_
        have em : ye_ml H L O R i.toNat = ye_mi H i.toNat (R i.toNat) := by unfold ye_ml; rw [if_pos (by omega)]
        have hC9 := hC5.cg (g2 := (ye_g3 H (ye_ml H L O R) g i.toNat)) (R2 := (ye_ru (ye_Rq H L O R i.toNat) i.toNat (ye_ml H L O R i.toNat))) (fun _ _ _ => rfl) (by rw [em, ← er]; exact fun _ _ _ _ => rfl)
        have er9 : (ye_ru (ye_Rq H L O R i.toNat) i.toNat (ye_ml H L O R i.toNat)) i.toNat = ye_ml H L O R i.toNat := ye_ru_s
        refine w_cv (st := []) rfl hL.gm rfl (Nat.le_of_ble_eq_true rfl) (fun kk h => h) (r_X12_uses (d := d + 1) hL hC9 (by show 0 ≤ i ∧ i ≤ 7; omega) hT h3 (by rw [er9]; omega) (by rw [er9]; omega) (by rw [er9]; omega) (by rw [er9]; omega) (by rw [er9]; omega) (by rw [er9]; exact f3) (by rw [er9]; omega) (by rw [er9]; omega) (by rw [er9]; omega) (by rw [g7]; omega) (by rw [g9]; omega) (fun M7 hC6 => ?_))
        refine w_il rfl ?_
        refine w_aln rfl ?_
        refine w_gi hL.gm rfl (by decide) rfl ((hC6.2.2.1 32 (by decide) (by decide) (by decide)).trans hL.lk) ?_
        refine w_cmne (fun c8 => ?_) (fun c8 => ?_)
        · skip
          refine w_ii rfl ⟨by show (-2147483648 : Int) ≤ i + 1; omega, by show i + 1 < (2147483648 : Int); omega⟩ ?_
          show wz _ _ _ _ [some (.inr (.inr (some m))), some (.inl x), some (.inl mi), y3, y4, some (.inl y5), some (.inl (i + 1))] _ _ _ _ _
          refine w_goto ?_
          refine ih (i + 1) _ _ _ (by omega) (by omega) (hC6.cg ?_ ?_) h
          · rw [et, er9]
            refine ye_10 rfl rfl rfl rfl rfl ?_ rfl ?_ rfl rfl
            · refine ((rv_up_n (by decide)).trans rv_up_s).trans (Eq.trans (b := g 227 + (ye_sm (fun t => ye_u H t (ye_ml H L O R t) + ye_fl H t (ye_ml H L O R t)) i.toNat + (ye_u H i.toNat (ye_ml H L O R i.toNat) + ye_fl H i.toNat (ye_ml H L O R i.toNat)))) ?_ rfl)
              rw [g7]; omega
            · refine rv_up_s.trans (Eq.trans (b := g 229 + (ye_sm (fun t => ye_sp H t (ye_ml H L O R t)) i.toNat + ye_sp H i.toNat (ye_ml H L O R i.toNat))) ?_ rfl)
              rw [g9]; omega
          · rw [et, ye_Rq_s, er9, ye_ru_2]; exact fun _ _ _ _ => rfl
        · exfalso; omega
      · skip
        refine w_il rfl ?_
        refine w_aln rfl ?_
        refine w_gi hL.gm rfl (by decide) rfl (hC.2.2.2.1.2.1) ?_
        refine w_cmne (fun c9 => ?_) (fun c9 => ?_)
        · skip
          refine w_aln rfl ?_
          refine w_il rfl ?_
          have em : ye_ml H L O R i.toNat = R i.toNat := by unfold ye_ml; rw [if_neg (by omega)]
          have hC8 := hC.op i.toNat
          have hC9 := hC8.cg (g2 := (ye_g3 H (ye_ml H L O R) g i.toNat)) (R2 := (ye_ru (ye_Rq H L O R i.toNat) i.toNat (ye_ml H L O R i.toNat))) (fun _ _ _ => rfl) (by rw [em, ← er]; exact fun _ _ _ _ => rfl)
          have er9 : (ye_ru (ye_Rq H L O R i.toNat) i.toNat (ye_ml H L O R i.toNat)) i.toNat = ye_ml H L O R i.toNat := ye_ru_s
          refine w_cv (st := []) rfl hL.gm rfl (Nat.le_of_ble_eq_true rfl) (fun kk h => h) (r_X12_uses (d := d + 1) hL hC9 (by show 0 ≤ i ∧ i ≤ 7; omega) hT h3 (by rw [er9]; omega) (by rw [er9]; omega) (by rw [er9]; omega) (by rw [er9]; omega) (by rw [er9]; omega) (by rw [er9]; exact f3) (by rw [er9]; omega) (by rw [er9]; omega) (by rw [er9]; omega) (by rw [g7]; omega) (by rw [g9]; omega) (fun M11 hC10 => ?_))
          refine w_il rfl ?_
          refine w_aln rfl ?_
          refine w_gi hL.gm rfl (by decide) rfl ((hC10.2.2.1 32 (by decide) (by decide) (by decide)).trans hL.lk) ?_
          refine w_cmne (fun c12 => ?_) (fun c12 => ?_)
          · skip
            refine w_ii rfl ⟨by show (-2147483648 : Int) ≤ i + 1; omega, by show i + 1 < (2147483648 : Int); omega⟩ ?_
            show wz _ _ _ _ [some (.inr (.inr (some m))), some (.inl x), some (.inl mi), y3, y4, some (.inl y5), some (.inl (i + 1))] _ _ _ _ _
            refine w_goto ?_
            refine ih (i + 1) _ _ _ (by omega) (by omega) (hC10.cg ?_ ?_) h
            · rw [et, er9]
              refine ye_10 rfl rfl rfl rfl rfl ?_ rfl ?_ rfl rfl
              · refine ((rv_up_n (by decide)).trans rv_up_s).trans (Eq.trans (b := g 227 + (ye_sm (fun t => ye_u H t (ye_ml H L O R t) + ye_fl H t (ye_ml H L O R t)) i.toNat + (ye_u H i.toNat (ye_ml H L O R i.toNat) + ye_fl H i.toNat (ye_ml H L O R i.toNat)))) ?_ rfl)
                rw [g7]; omega
              · refine rv_up_s.trans (Eq.trans (b := g 229 + (ye_sm (fun t => ye_sp H t (ye_ml H L O R t)) i.toNat + ye_sp H i.toNat (ye_ml H L O R i.toNat))) ?_ rfl)
                rw [g9]; omega
            · rw [et, ye_Rq_s, er9, ye_ru_2]; exact fun _ _ _ _ => rfl
          · exfalso; omega
        · skip
          refine w_aln rfl ?_
          refine w_il rfl ?_
          refine w_ic ?_
          refine w_aln rfl ?_
          refine w_il rfl ?_
          refine w_ic ?_
          refine w_cv (st := [.inl 1, .inl i, .inr (.inr (some m))]) rfl hL.gm rfl (Nat.le_of_ble_eq_true rfl) (fun kk h => h) ⟨Nat.le_of_ble_eq_true rfl, ?_⟩
          show wz (d + 2) mt_X12_toldOf.2.2.2.2.1 _ mt_X12_toldOf.2.2.2.2.1 [some (.inr (.inr (some m))), some (.inl i), some (.inl 5)] [] _ _ _ _
          refine w_aln rfl ?_
          refine w_gr hL.gm rfl (by decide) rfl (hC.vr hL.m6) ?_
          refine w_ic ?_
          refine w_bp ?_
          refine w_iln rfl ?_
          refine w_mul ⟨by show (-2147483648 : Int) ≤ 9 * i; omega, by show 9 * i < (2147483648 : Int); omega⟩ ?_
          refine w_add ⟨by show (-2147483648 : Int) ≤ 4 + (9 * i); omega, by show 4 + (9 * i) < (2147483648 : Int); omega⟩ ?_
          refine w_iln rfl ?_
          refine w_add ⟨by show (-2147483648 : Int) ≤ (4 + (9 * i)) + 5; omega, by show (4 + (9 * i)) + 5 < (2147483648 : Int); omega⟩ ?_
          refine w_iald (v := (H (9 + 9 * i.toNat))) hL.gs rfl (by show (0 : Int) ≤ (4 + (9 * i)) + 5; omega) (by show (4 + (9 * i)) + 5 < ((537 : Nat) : Int); omega) (hC.vn hL (by show ((4 + (9 * i)) + 5).toNat = 9 + 9 * i.toNat; omega) (by show 9 + 9 * i.toNat < 221; omega)) ?_
          refine w_iret (fun q => by cases q) ?_
          refine w_cv (st := []) rfl hL.gm rfl (Nat.le_of_ble_eq_true rfl) (fun kk h => h) ⟨Nat.le_of_ble_eq_true rfl, ?_⟩
          show wz (d + 2) mt_X12_more.2.2.2.2.1 _ mt_X12_more.2.2.2.2.1 [some (.inr (.inr (some m))), some (.inl i), some (.inl 1), some (.inl (H (9 + 9 * i.toNat)))] [] _ _ _ _
          refine w_aln rfl ?_
          refine w_gr hL.gm rfl (by decide) rfl (hC.vr hL.m6) ?_
          refine w_sp ?_
          refine w_bp ?_
          refine w_iln rfl ?_
          refine w_mul ⟨by show (-2147483648 : Int) ≤ 11 * i; omega, by show 11 * i < (2147483648 : Int); omega⟩ ?_
          refine w_add ⟨by show (-2147483648 : Int) ≤ 232 + (11 * i); omega, by show 232 + (11 * i) < (2147483648 : Int); omega⟩ ?_
          refine w_iln rfl ?_
          refine w_add ⟨by show (-2147483648 : Int) ≤ (232 + (11 * i)) + 1; omega, by show (232 + (11 * i)) + 1 < (2147483648 : Int); omega⟩ ?_
          refine w_dup2 ?_
          refine w_iald (v := ((ye_Rq H L O R i.toNat) i.toNat 1)) hL.gs rfl (by show (0 : Int) ≤ (232 + (11 * i)) + 1; omega) (by show (232 + (11 * i)) + 1 < ((537 : Nat) : Int); omega) (hC.vR (w := 1) (by show ((232 + (11 * i)) + 1).toNat = 232 + 11 * i.toNat + 1; omega) (by show i.toNat < 8; omega) (by decide)) ?_
          refine w_iln rfl ?_
          refine w_add ⟨by show (-2147483648 : Int) ≤ ((ye_Rq H L O R i.toNat) i.toNat 1) + (H (9 + 9 * i.toNat)); omega, by show ((ye_Rq H L O R i.toNat) i.toNat 1) + (H (9 + 9 * i.toNat)) < (2147483648 : Int); omega⟩ ?_
          refine w_iast hL.gs rfl (by decide) (by show (0 : Int) ≤ (232 + (11 * i)) + 1; omega) (by show (232 + (11 * i)) + 1 < ((537 : Nat) : Int); omega) ?_
          have hC13 := hC.op i.toNat
          have hC14 := hC13.pr (w := 1) (v := ((ye_Rq H L O R i.toNat) i.toNat 1) + (H (9 + 9 * i.toNat))) hL (by show ((232 + (11 * i)) + 1).toNat = 232 + 11 * i.toNat + 1; omega) (by show i.toNat < 8; omega) (by decide)
          refine w_ret ?_
          refine w_aln rfl ?_
          refine w_il rfl ?_
          refine w_ic ?_
          refine w_ic ?_
          refine w_cv (st := []) rfl hL.gm rfl (Nat.le_of_ble_eq_true rfl) (fun kk h => h) ⟨Nat.le_of_ble_eq_true rfl, ?_⟩
          show wz (d + 2) mt_X12_more.2.2.2.2.1 _ mt_X12_more.2.2.2.2.1 [some (.inr (.inr (some m))), some (.inl i), some (.inl 4), some (.inl 1)] [] _ _ _ _
          refine w_aln rfl ?_
          refine w_gr hL.gm rfl (by decide) rfl (hC14.vr hL.m6) ?_
          refine w_sp ?_
          refine w_bp ?_
          refine w_iln rfl ?_
          refine w_mul ⟨by show (-2147483648 : Int) ≤ 11 * i; omega, by show 11 * i < (2147483648 : Int); omega⟩ ?_
          refine w_add ⟨by show (-2147483648 : Int) ≤ 232 + (11 * i); omega, by show 232 + (11 * i) < (2147483648 : Int); omega⟩ ?_
          refine w_iln rfl ?_
          refine w_add ⟨by show (-2147483648 : Int) ≤ (232 + (11 * i)) + 4; omega, by show (232 + (11 * i)) + 4 < (2147483648 : Int); omega⟩ ?_
          refine w_dup2 ?_
          refine w_iald (v := ((ye_Rq H L O R i.toNat) i.toNat 4)) hL.gs rfl (by show (0 : Int) ≤ (232 + (11 * i)) + 4; omega) (by show (232 + (11 * i)) + 4 < ((537 : Nat) : Int); omega) ((hC14.rr (w := 4) (by show ((232 + (11 * i)) + 4).toNat = 232 + 11 * i.toNat + 4; omega) (by show i.toNat < 8; omega) (by decide)).trans ((rv_up_n (by decide)))) ?_
          refine w_iln rfl ?_
          refine w_add ⟨by show (-2147483648 : Int) ≤ ((ye_Rq H L O R i.toNat) i.toNat 4) + 1; omega, by show ((ye_Rq H L O R i.toNat) i.toNat 4) + 1 < (2147483648 : Int); omega⟩ ?_
          refine w_iast hL.gs rfl (by decide) (by show (0 : Int) ≤ (232 + (11 * i)) + 4; omega) (by show (232 + (11 * i)) + 4 < ((537 : Nat) : Int); omega) ?_
          have hC15 := hC14.pr (w := 4) (v := ((ye_Rq H L O R i.toNat) i.toNat 4) + 1) hL (by show ((232 + (11 * i)) + 4).toNat = 232 + 11 * i.toNat + 4; omega) (by show i.toNat < 8; omega) (by decide)
          refine w_ret ?_
          refine w_aln rfl ?_
          refine w_il rfl ?_
          have em : ye_ml H L O R i.toNat = ye_mi H i.toNat (R i.toNat) := by unfold ye_ml; rw [if_pos (by omega)]
          have hC9 := hC15.cg (g2 := (ye_g3 H (ye_ml H L O R) g i.toNat)) (R2 := (ye_ru (ye_Rq H L O R i.toNat) i.toNat (ye_ml H L O R i.toNat))) (fun _ _ _ => rfl) (by rw [em, ← er]; exact fun _ _ _ _ => rfl)
          have er9 : (ye_ru (ye_Rq H L O R i.toNat) i.toNat (ye_ml H L O R i.toNat)) i.toNat = ye_ml H L O R i.toNat := ye_ru_s
          refine w_cv (st := []) rfl hL.gm rfl (Nat.le_of_ble_eq_true rfl) (fun kk h => h) (r_X12_uses (d := d + 1) hL hC9 (by show 0 ≤ i ∧ i ≤ 7; omega) hT h3 (by rw [er9]; omega) (by rw [er9]; omega) (by rw [er9]; omega) (by rw [er9]; omega) (by rw [er9]; omega) (by rw [er9]; exact f3) (by rw [er9]; omega) (by rw [er9]; omega) (by rw [er9]; omega) (by rw [g7]; omega) (by rw [g9]; omega) (fun M17 hC16 => ?_))
          refine w_il rfl ?_
          refine w_aln rfl ?_
          refine w_gi hL.gm rfl (by decide) rfl ((hC16.2.2.1 32 (by decide) (by decide) (by decide)).trans hL.lk) ?_
          refine w_cmne (fun c18 => ?_) (fun c18 => ?_)
          · skip
            refine w_ii rfl ⟨by show (-2147483648 : Int) ≤ i + 1; omega, by show i + 1 < (2147483648 : Int); omega⟩ ?_
            show wz _ _ _ _ [some (.inr (.inr (some m))), some (.inl x), some (.inl mi), y3, y4, some (.inl y5), some (.inl (i + 1))] _ _ _ _ _
            refine w_goto ?_
            refine ih (i + 1) _ _ _ (by omega) (by omega) (hC16.cg ?_ ?_) h
            · rw [et, er9]
              refine ye_10 rfl rfl rfl rfl rfl ?_ rfl ?_ rfl rfl
              · refine ((rv_up_n (by decide)).trans rv_up_s).trans (Eq.trans (b := g 227 + (ye_sm (fun t => ye_u H t (ye_ml H L O R t) + ye_fl H t (ye_ml H L O R t)) i.toNat + (ye_u H i.toNat (ye_ml H L O R i.toNat) + ye_fl H i.toNat (ye_ml H L O R i.toNat)))) ?_ rfl)
                rw [g7]; omega
              · refine rv_up_s.trans (Eq.trans (b := g 229 + (ye_sm (fun t => ye_sp H t (ye_ml H L O R t)) i.toNat + ye_sp H i.toNat (ye_ml H L O R i.toNat))) ?_ rfl)
                rw [g9]; omega
            · rw [et, ye_Rq_s, er9, ye_ru_2]; exact fun _ _ _ _ => rfl
          · exfalso; omega
def ye_cb (H A B : Nat → Int) (m : Nat) (k i : Int) : Int := if 0 ≤ k ∧ k < i then ye_br H A B m k else 0
theorem r_brR {G : mj_G} {M M0 : mj_M} {s m : Nat} {H : Nat → Int} {g A B C : Nat → Int} {R : Nat → Nat → Int} {L O P : Int} {Q : mj_P} {d : Nat} {y6 : Option mj_V} {x mi : Int} (hL : yq_L G M0 s m H) (hC : yq_S s m M0 g A B C R L O P M) (hH : 0 ≤ H 0 ∧ H 0 ≤ 8) (hT : ∀ j, 4 ≤ j → j < 76 → 0 ≤ H j ∧ H j ≤ 999) (hm : g 222 = mi) (m0 : 0 ≤ mi ∧ mi ≤ 11) (hl : L = 8 ∨ (0 ≤ L ∧ L < H 0)) (ho : O = -1 ∨ (0 ≤ O ∧ O < H 0)) (hn : L ≠ O) {z : Int} (ez : z = H 1 * ye_wy H g L) (b1 : 0 ≤ z ∧ z ≤ 792) : ∀ (n : Nat) (i c : Int) (cb sb : Nat), i + n = H 0 → 0 ≤ i → c = z + ye_cb H A B mi.toNat L i + ye_cb H A B mi.toNat O i → (wz (d + 3) mt_X12_month.2.2.2.2.1 Q (mt_X12_month.2.2.2.2.1.drop 58) [some (.inr (.inr (some m))), some (.inl x), some (.inl mi), some (.inl (ye_wy H g L)), some (.inl (ye_co H g A B mi.toNat L O)), some (.inl (H 0)), y6] [] G M cb sb) → wz (d + 3) mt_X12_month.2.2.2.2.1 Q (mt_X12_month.2.2.2.2.1.drop 30) [some (.inr (.inr (some m))), some (.inl x), some (.inl mi), some (.inl (ye_wy H g L)), some (.inl c), some (.inl i), y6] [] G M cb sb := by
  intro n
  have bl := ye_br_b (A := A) (B := B) (m := mi.toNat) (k := L) hT (by omega)
  have bo := ye_br_b (A := A) (B := B) (m := mi.toNat) (k := O) hT (by omega)
  induction n with
  | zero =>
    intro i c cb sb e i0 hc h
    obtain rfl : i = H 0 := by omega
    have e1 : ye_cb H A B mi.toNat L (H 0) = ye_br H A B mi.toNat L := by
      unfold ye_cb
      by_cases q : L = 8
      · rw [if_neg (by omega)]; unfold ye_br; rw [if_pos (Or.inl q)]
      · rw [if_pos (by omega)]
    have e2 : ye_cb H A B mi.toNat O (H 0) = ye_br H A B mi.toNat O := by
      unfold ye_cb
      by_cases q : O = -1
      · rw [if_neg (by omega)]; unfold ye_br; rw [if_pos (Or.inr q)]
      · rw [if_pos (by omega)]
    have ec : c = ye_co H g A B mi.toNat L O := by unfold ye_co; rw [hc, e1, e2, ez]
    subst ec
    refine w_il rfl ?_
    refine w_aln rfl ?_
    refine w_gr hL.gm rfl (by decide) rfl (hC.vr hL.m6) ?_
    refine w_ic ?_
    refine w_iald (v := (H 0)) hL.gs rfl (by show (0 : Int) ≤ 0; omega) (by show 0 < ((537 : Nat) : Int); omega) (hC.vn hL (by show (0 : Int).toNat = 0; omega) (by decide)) ?_
    refine w_cmge (fun c1 => ?_) (fun c1 => ?_)
    · skip
      exact h
    · exfalso; omega
  | succ n ih =>
    intro i c cb sb e i0 hc h
    have tw := hT (10 + 9 * i.toNat) (by omega) (by omega)
    have cl : 0 ≤ ye_cb H A B mi.toNat L i ∧ ye_cb H A B mi.toNat L i ≤ 999 := by unfold ye_cb; split <;> omega
    have co : 0 ≤ ye_cb H A B mi.toNat O i ∧ ye_cb H A B mi.toNat O i ≤ 999 := by unfold ye_cb; split <;> omega
    refine w_il rfl ?_
    refine w_aln rfl ?_
    refine w_gr hL.gm rfl (by decide) rfl (hC.vr hL.m6) ?_
    refine w_ic ?_
    refine w_iald (v := (H 0)) hL.gs rfl (by show (0 : Int) ≤ 0; omega) (by show 0 < ((537 : Nat) : Int); omega) (hC.vn hL (by show (0 : Int).toNat = 0; omega) (by decide)) ?_
    refine w_cmge (fun c1 => ?_) (fun c1 => ?_)
    · exfalso; omega
    · skip
      refine w_il rfl ?_
      refine w_aln rfl ?_
      refine w_gi hL.gm rfl (by decide) rfl (hC.2.2.2.1.1) ?_
      refine w_cmeq (fun c2 => ?_) (fun c2 => ?_)
      · skip
        refine w_aln rfl ?_
        refine w_il rfl ?_
        refine w_iln rfl ?_
        refine w_cv (st := []) rfl hL.gm rfl (Nat.le_of_ble_eq_true rfl) (fun kk h => h) ⟨Nat.le_of_ble_eq_true rfl, ?_⟩
        show wz (d + 2) mt_X12_wasLet.2.2.2.2.1 _ mt_X12_wasLet.2.2.2.2.1 [some (.inr (.inr (some m))), some (.inl i), some (.inl mi)] [] _ _ _ _
        refine w_iln rfl ?_
        refine w_ifle (fun c3 => ?_) (fun c3 => ?_)
        · skip
          refine w_ic ?_
          refine w_iret (fun _ => Or.inl rfl) ?_
          refine w_ifne (fun c4 => ?_) (fun c4 => ?_)
          · exfalso; omega
          · skip
            refine w_il rfl ?_
            refine w_aln rfl ?_
            refine w_il rfl ?_
            refine w_bp ?_
            refine w_cv (st := [.inl c]) rfl hL.gm rfl (Nat.le_of_ble_eq_true rfl) (fun kk h => h) ⟨Nat.le_of_ble_eq_true rfl, ?_⟩
            show wz (d + 2) mt_X12_toldOf.2.2.2.2.1 _ mt_X12_toldOf.2.2.2.2.1 [some (.inr (.inr (some m))), some (.inl i), some (.inl 6)] [] _ _ _ _
            refine w_aln rfl ?_
            refine w_gr hL.gm rfl (by decide) rfl (hC.vr hL.m6) ?_
            refine w_ic ?_
            refine w_bp ?_
            refine w_iln rfl ?_
            refine w_mul ⟨by show (-2147483648 : Int) ≤ 9 * i; omega, by show 9 * i < (2147483648 : Int); omega⟩ ?_
            refine w_add ⟨by show (-2147483648 : Int) ≤ 4 + (9 * i); omega, by show 4 + (9 * i) < (2147483648 : Int); omega⟩ ?_
            refine w_iln rfl ?_
            refine w_add ⟨by show (-2147483648 : Int) ≤ (4 + (9 * i)) + 6; omega, by show (4 + (9 * i)) + 6 < (2147483648 : Int); omega⟩ ?_
            refine w_iald (v := (H (10 + 9 * i.toNat))) hL.gs rfl (by show (0 : Int) ≤ (4 + (9 * i)) + 6; omega) (by show (4 + (9 * i)) + 6 < ((537 : Nat) : Int); omega) (hC.vn hL (by show ((4 + (9 * i)) + 6).toNat = 10 + 9 * i.toNat; omega) (by show 10 + 9 * i.toNat < 221; omega)) ?_
            refine w_iret (fun q => by cases q) ?_
            refine w_add ⟨by show (-2147483648 : Int) ≤ c + (H (10 + 9 * i.toNat)); omega, by show c + (H (10 + 9 * i.toNat)) < (2147483648 : Int); omega⟩ ?_
            refine w_is ?_
            show wz _ _ _ _ [some (.inr (.inr (some m))), some (.inl x), some (.inl mi), some (.inl (ye_wy H g L)), some (.inl (c + (H (10 + 9 * i.toNat)))), some (.inl i), y6] _ _ _ _ _
            refine w_ii rfl ⟨by show (-2147483648 : Int) ≤ i + 1; omega, by show i + 1 < (2147483648 : Int); omega⟩ ?_
            show wz _ _ _ _ [some (.inr (.inr (some m))), some (.inl x), some (.inl mi), some (.inl (ye_wy H g L)), some (.inl (c + (H (10 + 9 * i.toNat)))), some (.inl (i + 1)), y6] _ _ _ _ _
            refine w_goto ?_
            refine ih (i + 1) _ _ _ (by omega) (by omega) ?_ h
            have kL : ye_cb H A B mi.toNat L (i + 1) = (H (10 + 9 * i.toNat)) ∧ ye_cb H A B mi.toNat L i = 0 := by
              unfold ye_cb ye_br
              rw [if_pos (by omega), if_neg (by omega : ¬ (0 ≤ L ∧ L < i)), show mi.toNat - 1 = (mi - 1).toNat by omega, show L.toNat = i.toNat by omega]
              rw [if_neg (by omega)]
              first | (rw [if_pos (by omega)]; exact ⟨rfl, rfl⟩) | (rw [if_neg (by omega)]; exact ⟨rfl, rfl⟩)
            have kO : ye_cb H A B mi.toNat O (i + 1) = ye_cb H A B mi.toNat O i := by
              unfold ye_cb
              by_cases q : 0 ≤ O ∧ O < i
              · rw [if_pos q, if_pos (by omega)]
              · rw [if_neg q, if_neg (by omega)]
            omega
        · skip
          refine w_aln rfl ?_
          refine w_gr hL.gm rfl (by decide) rfl (hC.vr hL.m6) ?_
          refine w_sp ?_
          refine w_ic ?_
          refine w_iln rfl ?_
          refine w_mul ⟨by show (-2147483648 : Int) ≤ 3 * mi; omega, by show 3 * mi < (2147483648 : Int); omega⟩ ?_
          refine w_add ⟨by show (-2147483648 : Int) ≤ 320 + (3 * mi); omega, by show 320 + (3 * mi) < (2147483648 : Int); omega⟩ ?_
          refine w_ic ?_
          refine w_sub ⟨by show (-2147483648 : Int) ≤ (320 + (3 * mi)) - 3; omega, by show (320 + (3 * mi)) - 3 < (2147483648 : Int); omega⟩ ?_
          refine w_iald (v := (A (mi - 1).toNat)) hL.gs rfl (by show (0 : Int) ≤ (320 + (3 * mi)) - 3; omega) (by show (320 + (3 * mi)) - 3 < ((537 : Nat) : Int); omega) (hC.vA (by show ((320 + (3 * mi)) - 3).toNat = 320 + 3 * (mi - 1).toNat; omega) (by show (mi - 1).toNat < 12; omega)) ?_
          refine w_iln rfl ?_
          refine w_cmeq (fun c5 => ?_) (fun c5 => ?_)
          · skip
            refine w_ic ?_
            refine w_goto ?_
            refine w_iret (fun _ => Or.inr rfl) ?_
            refine w_ifne (fun c6 => ?_) (fun c6 => ?_)
            · skip
              refine w_ii rfl ⟨by show (-2147483648 : Int) ≤ i + 1; omega, by show i + 1 < (2147483648 : Int); omega⟩ ?_
              show wz _ _ _ _ [some (.inr (.inr (some m))), some (.inl x), some (.inl mi), some (.inl (ye_wy H g L)), some (.inl c), some (.inl (i + 1)), y6] _ _ _ _ _
              refine w_goto ?_
              refine ih (i + 1) _ _ _ (by omega) (by omega) ?_ h
              have kL : ye_cb H A B mi.toNat L (i + 1) = 0 ∧ ye_cb H A B mi.toNat L i = 0 := by
                unfold ye_cb ye_br
                rw [if_pos (by omega), if_neg (by omega : ¬ (0 ≤ L ∧ L < i)), show mi.toNat - 1 = (mi - 1).toNat by omega, show L.toNat = i.toNat by omega]
                rw [if_neg (by omega)]
                first | (rw [if_pos (by omega)]; exact ⟨rfl, rfl⟩) | (rw [if_neg (by omega)]; exact ⟨rfl, rfl⟩)
              have kO : ye_cb H A B mi.toNat O (i + 1) = ye_cb H A B mi.toNat O i := by
                unfold ye_cb
                by_cases q : 0 ≤ O ∧ O < i
                · rw [if_pos q, if_pos (by omega)]
                · rw [if_neg q, if_neg (by omega)]
              omega
            · exfalso; omega
          · skip
            refine w_aln rfl ?_
            refine w_gr hL.gm rfl (by decide) rfl (hC.vr hL.m6) ?_
            refine w_sp ?_
            refine w_ic ?_
            refine w_iln rfl ?_
            refine w_mul ⟨by show (-2147483648 : Int) ≤ 3 * mi; omega, by show 3 * mi < (2147483648 : Int); omega⟩ ?_
            refine w_add ⟨by show (-2147483648 : Int) ≤ 320 + (3 * mi); omega, by show 320 + (3 * mi) < (2147483648 : Int); omega⟩ ?_
            refine w_ic ?_
            refine w_sub ⟨by show (-2147483648 : Int) ≤ (320 + (3 * mi)) - 2; omega, by show (320 + (3 * mi)) - 2 < (2147483648 : Int); omega⟩ ?_
            refine w_iald (v := (B (mi - 1).toNat)) hL.gs rfl (by show (0 : Int) ≤ (320 + (3 * mi)) - 2; omega) (by show (320 + (3 * mi)) - 2 < ((537 : Nat) : Int); omega) (hC.vB (by show ((320 + (3 * mi)) - 2).toNat = 321 + 3 * (mi - 1).toNat; omega) (by show (mi - 1).toNat < 12; omega)) ?_
            refine w_iln rfl ?_
            refine w_cmne (fun c7 => ?_) (fun c7 => ?_)
            · skip
              refine w_ic ?_
              refine w_iret (fun _ => Or.inl rfl) ?_
              refine w_ifne (fun c8 => ?_) (fun c8 => ?_)
              · exfalso; omega
              · skip
                refine w_il rfl ?_
                refine w_aln rfl ?_
                refine w_il rfl ?_
                refine w_bp ?_
                refine w_cv (st := [.inl c]) rfl hL.gm rfl (Nat.le_of_ble_eq_true rfl) (fun kk h => h) ⟨Nat.le_of_ble_eq_true rfl, ?_⟩
                show wz (d + 2) mt_X12_toldOf.2.2.2.2.1 _ mt_X12_toldOf.2.2.2.2.1 [some (.inr (.inr (some m))), some (.inl i), some (.inl 6)] [] _ _ _ _
                refine w_aln rfl ?_
                refine w_gr hL.gm rfl (by decide) rfl (hC.vr hL.m6) ?_
                refine w_ic ?_
                refine w_bp ?_
                refine w_iln rfl ?_
                refine w_mul ⟨by show (-2147483648 : Int) ≤ 9 * i; omega, by show 9 * i < (2147483648 : Int); omega⟩ ?_
                refine w_add ⟨by show (-2147483648 : Int) ≤ 4 + (9 * i); omega, by show 4 + (9 * i) < (2147483648 : Int); omega⟩ ?_
                refine w_iln rfl ?_
                refine w_add ⟨by show (-2147483648 : Int) ≤ (4 + (9 * i)) + 6; omega, by show (4 + (9 * i)) + 6 < (2147483648 : Int); omega⟩ ?_
                refine w_iald (v := (H (10 + 9 * i.toNat))) hL.gs rfl (by show (0 : Int) ≤ (4 + (9 * i)) + 6; omega) (by show (4 + (9 * i)) + 6 < ((537 : Nat) : Int); omega) (hC.vn hL (by show ((4 + (9 * i)) + 6).toNat = 10 + 9 * i.toNat; omega) (by show 10 + 9 * i.toNat < 221; omega)) ?_
                refine w_iret (fun q => by cases q) ?_
                refine w_add ⟨by show (-2147483648 : Int) ≤ c + (H (10 + 9 * i.toNat)); omega, by show c + (H (10 + 9 * i.toNat)) < (2147483648 : Int); omega⟩ ?_
                refine w_is ?_
                show wz _ _ _ _ [some (.inr (.inr (some m))), some (.inl x), some (.inl mi), some (.inl (ye_wy H g L)), some (.inl (c + (H (10 + 9 * i.toNat)))), some (.inl i), y6] _ _ _ _ _
                refine w_ii rfl ⟨by show (-2147483648 : Int) ≤ i + 1; omega, by show i + 1 < (2147483648 : Int); omega⟩ ?_
                show wz _ _ _ _ [some (.inr (.inr (some m))), some (.inl x), some (.inl mi), some (.inl (ye_wy H g L)), some (.inl (c + (H (10 + 9 * i.toNat)))), some (.inl (i + 1)), y6] _ _ _ _ _
                refine w_goto ?_
                refine ih (i + 1) _ _ _ (by omega) (by omega) ?_ h
                have kL : ye_cb H A B mi.toNat L (i + 1) = (H (10 + 9 * i.toNat)) ∧ ye_cb H A B mi.toNat L i = 0 := by
                  unfold ye_cb ye_br
                  rw [if_pos (by omega), if_neg (by omega : ¬ (0 ≤ L ∧ L < i)), show mi.toNat - 1 = (mi - 1).toNat by omega, show L.toNat = i.toNat by omega]
                  rw [if_neg (by omega)]
                  first | (rw [if_pos (by omega)]; exact ⟨rfl, rfl⟩) | (rw [if_neg (by omega)]; exact ⟨rfl, rfl⟩)
                have kO : ye_cb H A B mi.toNat O (i + 1) = ye_cb H A B mi.toNat O i := by
                  unfold ye_cb
                  by_cases q : 0 ≤ O ∧ O < i
                  · rw [if_pos q, if_pos (by omega)]
                  · rw [if_neg q, if_neg (by omega)]
                omega
            · skip
              refine w_ic ?_
              refine w_goto ?_
              refine w_iret (fun _ => Or.inr rfl) ?_
              refine w_ifne (fun c9 => ?_) (fun c9 => ?_)
              · skip
                refine w_ii rfl ⟨by show (-2147483648 : Int) ≤ i + 1; omega, by show i + 1 < (2147483648 : Int); omega⟩ ?_
                show wz _ _ _ _ [some (.inr (.inr (some m))), some (.inl x), some (.inl mi), some (.inl (ye_wy H g L)), some (.inl c), some (.inl (i + 1)), y6] _ _ _ _ _
                refine w_goto ?_
                refine ih (i + 1) _ _ _ (by omega) (by omega) ?_ h
                have kL : ye_cb H A B mi.toNat L (i + 1) = 0 ∧ ye_cb H A B mi.toNat L i = 0 := by
                  unfold ye_cb ye_br
                  rw [if_pos (by omega), if_neg (by omega : ¬ (0 ≤ L ∧ L < i)), show mi.toNat - 1 = (mi - 1).toNat by omega, show L.toNat = i.toNat by omega]
                  rw [if_neg (by omega)]
                  first | (rw [if_pos (by omega)]; exact ⟨rfl, rfl⟩) | (rw [if_neg (by omega)]; exact ⟨rfl, rfl⟩)
                have kO : ye_cb H A B mi.toNat O (i + 1) = ye_cb H A B mi.toNat O i := by
                  unfold ye_cb
                  by_cases q : 0 ≤ O ∧ O < i
                  · rw [if_pos q, if_pos (by omega)]
                  · rw [if_neg q, if_neg (by omega)]
                omega
              · exfalso; omega
      · skip
        refine w_il rfl ?_
        refine w_aln rfl ?_
        refine w_gi hL.gm rfl (by decide) rfl (hC.2.2.2.1.2.1) ?_
        refine w_cmne (fun c10 => ?_) (fun c10 => ?_)
        · skip
          refine w_ii rfl ⟨by show (-2147483648 : Int) ≤ i + 1; omega, by show i + 1 < (2147483648 : Int); omega⟩ ?_
          show wz _ _ _ _ [some (.inr (.inr (some m))), some (.inl x), some (.inl mi), some (.inl (ye_wy H g L)), some (.inl c), some (.inl (i + 1)), y6] _ _ _ _ _
          refine w_goto ?_
          refine ih (i + 1) _ _ _ (by omega) (by omega) ?_ h
          have kL : ye_cb H A B mi.toNat L (i + 1) = ye_cb H A B mi.toNat L i := by
            unfold ye_cb
            by_cases q : 0 ≤ L ∧ L < i
            · rw [if_pos q, if_pos (by omega)]
            · rw [if_neg q, if_neg (by omega)]
          have kO : ye_cb H A B mi.toNat O (i + 1) = ye_cb H A B mi.toNat O i := by
            unfold ye_cb
            by_cases q : 0 ≤ O ∧ O < i
            · rw [if_pos q, if_pos (by omega)]
            · rw [if_neg q, if_neg (by omega)]
          omega
        · skip
          refine w_aln rfl ?_
          refine w_il rfl ?_
          refine w_iln rfl ?_
          refine w_cv (st := []) rfl hL.gm rfl (Nat.le_of_ble_eq_true rfl) (fun kk h => h) ⟨Nat.le_of_ble_eq_true rfl, ?_⟩
          show wz (d + 2) mt_X12_wasLet.2.2.2.2.1 _ mt_X12_wasLet.2.2.2.2.1 [some (.inr (.inr (some m))), some (.inl i), some (.inl mi)] [] _ _ _ _
          refine w_iln rfl ?_
          refine w_ifle (fun c11 => ?_) (fun c11 => ?_)
          · skip
            refine w_ic ?_
            refine w_iret (fun _ => Or.inl rfl) ?_
            refine w_ifne (fun c12 => ?_) (fun c12 => ?_)
            · exfalso; omega
            · skip
              refine w_il rfl ?_
              refine w_aln rfl ?_
              refine w_il rfl ?_
              refine w_bp ?_
              refine w_cv (st := [.inl c]) rfl hL.gm rfl (Nat.le_of_ble_eq_true rfl) (fun kk h => h) ⟨Nat.le_of_ble_eq_true rfl, ?_⟩
              show wz (d + 2) mt_X12_toldOf.2.2.2.2.1 _ mt_X12_toldOf.2.2.2.2.1 [some (.inr (.inr (some m))), some (.inl i), some (.inl 6)] [] _ _ _ _
              refine w_aln rfl ?_
              refine w_gr hL.gm rfl (by decide) rfl (hC.vr hL.m6) ?_
              refine w_ic ?_
              refine w_bp ?_
              refine w_iln rfl ?_
              refine w_mul ⟨by show (-2147483648 : Int) ≤ 9 * i; omega, by show 9 * i < (2147483648 : Int); omega⟩ ?_
              refine w_add ⟨by show (-2147483648 : Int) ≤ 4 + (9 * i); omega, by show 4 + (9 * i) < (2147483648 : Int); omega⟩ ?_
              refine w_iln rfl ?_
              refine w_add ⟨by show (-2147483648 : Int) ≤ (4 + (9 * i)) + 6; omega, by show (4 + (9 * i)) + 6 < (2147483648 : Int); omega⟩ ?_
              refine w_iald (v := (H (10 + 9 * i.toNat))) hL.gs rfl (by show (0 : Int) ≤ (4 + (9 * i)) + 6; omega) (by show (4 + (9 * i)) + 6 < ((537 : Nat) : Int); omega) (hC.vn hL (by show ((4 + (9 * i)) + 6).toNat = 10 + 9 * i.toNat; omega) (by show 10 + 9 * i.toNat < 221; omega)) ?_
              refine w_iret (fun q => by cases q) ?_
              refine w_add ⟨by show (-2147483648 : Int) ≤ c + (H (10 + 9 * i.toNat)); omega, by show c + (H (10 + 9 * i.toNat)) < (2147483648 : Int); omega⟩ ?_
              refine w_is ?_
              show wz _ _ _ _ [some (.inr (.inr (some m))), some (.inl x), some (.inl mi), some (.inl (ye_wy H g L)), some (.inl (c + (H (10 + 9 * i.toNat)))), some (.inl i), y6] _ _ _ _ _
              refine w_ii rfl ⟨by show (-2147483648 : Int) ≤ i + 1; omega, by show i + 1 < (2147483648 : Int); omega⟩ ?_
              show wz _ _ _ _ [some (.inr (.inr (some m))), some (.inl x), some (.inl mi), some (.inl (ye_wy H g L)), some (.inl (c + (H (10 + 9 * i.toNat)))), some (.inl (i + 1)), y6] _ _ _ _ _
              refine w_goto ?_
              refine ih (i + 1) _ _ _ (by omega) (by omega) ?_ h
              have kL : ye_cb H A B mi.toNat L (i + 1) = ye_cb H A B mi.toNat L i := by
                unfold ye_cb
                by_cases q : 0 ≤ L ∧ L < i
                · rw [if_pos q, if_pos (by omega)]
                · rw [if_neg q, if_neg (by omega)]
              have kO : ye_cb H A B mi.toNat O (i + 1) = (H (10 + 9 * i.toNat)) ∧ ye_cb H A B mi.toNat O i = 0 := by
                unfold ye_cb ye_br
                rw [if_pos (by omega), if_neg (by omega : ¬ (0 ≤ O ∧ O < i)), show mi.toNat - 1 = (mi - 1).toNat by omega, show O.toNat = i.toNat by omega]
                rw [if_neg (by omega)]
                first | (rw [if_pos (by omega)]; exact ⟨rfl, rfl⟩) | (rw [if_neg (by omega)]; exact ⟨rfl, rfl⟩)
              omega
          · skip
            refine w_aln rfl ?_
            refine w_gr hL.gm rfl (by decide) rfl (hC.vr hL.m6) ?_
            refine w_sp ?_
            refine w_ic ?_
            refine w_iln rfl ?_
            refine w_mul ⟨by show (-2147483648 : Int) ≤ 3 * mi; omega, by show 3 * mi < (2147483648 : Int); omega⟩ ?_
            refine w_add ⟨by show (-2147483648 : Int) ≤ 320 + (3 * mi); omega, by show 320 + (3 * mi) < (2147483648 : Int); omega⟩ ?_
            refine w_ic ?_
            refine w_sub ⟨by show (-2147483648 : Int) ≤ (320 + (3 * mi)) - 3; omega, by show (320 + (3 * mi)) - 3 < (2147483648 : Int); omega⟩ ?_
            refine w_iald (v := (A (mi - 1).toNat)) hL.gs rfl (by show (0 : Int) ≤ (320 + (3 * mi)) - 3; omega) (by show (320 + (3 * mi)) - 3 < ((537 : Nat) : Int); omega) (hC.vA (by show ((320 + (3 * mi)) - 3).toNat = 320 + 3 * (mi - 1).toNat; omega) (by show (mi - 1).toNat < 12; omega)) ?_
            refine w_iln rfl ?_
            refine w_cmeq (fun c13 => ?_) (fun c13 => ?_)
            · skip
              refine w_ic ?_
              refine w_goto ?_
              refine w_iret (fun _ => Or.inr rfl) ?_
              refine w_ifne (fun c14 => ?_) (fun c14 => ?_)
              · skip
                refine w_ii rfl ⟨by show (-2147483648 : Int) ≤ i + 1; omega, by show i + 1 < (2147483648 : Int); omega⟩ ?_
                show wz _ _ _ _ [some (.inr (.inr (some m))), some (.inl x), some (.inl mi), some (.inl (ye_wy H g L)), some (.inl c), some (.inl (i + 1)), y6] _ _ _ _ _
                refine w_goto ?_
                refine ih (i + 1) _ _ _ (by omega) (by omega) ?_ h
                have kL : ye_cb H A B mi.toNat L (i + 1) = ye_cb H A B mi.toNat L i := by
                  unfold ye_cb
                  by_cases q : 0 ≤ L ∧ L < i
                  · rw [if_pos q, if_pos (by omega)]
                  · rw [if_neg q, if_neg (by omega)]
                have kO : ye_cb H A B mi.toNat O (i + 1) = 0 ∧ ye_cb H A B mi.toNat O i = 0 := by
                  unfold ye_cb ye_br
                  rw [if_pos (by omega), if_neg (by omega : ¬ (0 ≤ O ∧ O < i)), show mi.toNat - 1 = (mi - 1).toNat by omega, show O.toNat = i.toNat by omega]
                  rw [if_neg (by omega)]
                  first | (rw [if_pos (by omega)]; exact ⟨rfl, rfl⟩) | (rw [if_neg (by omega)]; exact ⟨rfl, rfl⟩)
                omega
              · exfalso; omega
            · skip
              refine w_aln rfl ?_
              refine w_gr hL.gm rfl (by decide) rfl (hC.vr hL.m6) ?_
              refine w_sp ?_
              refine w_ic ?_
              refine w_iln rfl ?_
              refine w_mul ⟨by show (-2147483648 : Int) ≤ 3 * mi; omega, by show 3 * mi < (2147483648 : Int); omega⟩ ?_
              refine w_add ⟨by show (-2147483648 : Int) ≤ 320 + (3 * mi); omega, by show 320 + (3 * mi) < (2147483648 : Int); omega⟩ ?_
              refine w_ic ?_
              refine w_sub ⟨by show (-2147483648 : Int) ≤ (320 + (3 * mi)) - 2; omega, by show (320 + (3 * mi)) - 2 < (2147483648 : Int); omega⟩ ?_
              refine w_iald (v := (B (mi - 1).toNat)) hL.gs rfl (by show (0 : Int) ≤ (320 + (3 * mi)) - 2; omega) (by show (320 + (3 * mi)) - 2 < ((537 : Nat) : Int); omega) (hC.vB (by show ((320 + (3 * mi)) - 2).toNat = 321 + 3 * (mi - 1).toNat; omega) (by show (mi - 1).toNat < 12; omega)) ?_
              refine w_iln rfl ?_
              refine w_cmne (fun c15 => ?_) (fun c15 => ?_)
              · skip
                refine w_ic ?_
                refine w_iret (fun _ => Or.inl rfl) ?_
                refine w_ifne (fun c16 => ?_) (fun c16 => ?_)
                · exfalso; omega
                · skip
                  refine w_il rfl ?_
                  refine w_aln rfl ?_
                  refine w_il rfl ?_
                  refine w_bp ?_
                  refine w_cv (st := [.inl c]) rfl hL.gm rfl (Nat.le_of_ble_eq_true rfl) (fun kk h => h) ⟨Nat.le_of_ble_eq_true rfl, ?_⟩
                  show wz (d + 2) mt_X12_toldOf.2.2.2.2.1 _ mt_X12_toldOf.2.2.2.2.1 [some (.inr (.inr (some m))), some (.inl i), some (.inl 6)] [] _ _ _ _
                  refine w_aln rfl ?_
                  refine w_gr hL.gm rfl (by decide) rfl (hC.vr hL.m6) ?_
                  refine w_ic ?_
                  refine w_bp ?_
                  refine w_iln rfl ?_
                  refine w_mul ⟨by show (-2147483648 : Int) ≤ 9 * i; omega, by show 9 * i < (2147483648 : Int); omega⟩ ?_
                  refine w_add ⟨by show (-2147483648 : Int) ≤ 4 + (9 * i); omega, by show 4 + (9 * i) < (2147483648 : Int); omega⟩ ?_
                  refine w_iln rfl ?_
                  refine w_add ⟨by show (-2147483648 : Int) ≤ (4 + (9 * i)) + 6; omega, by show (4 + (9 * i)) + 6 < (2147483648 : Int); omega⟩ ?_
                  refine w_iald (v := (H (10 + 9 * i.toNat))) hL.gs rfl (by show (0 : Int) ≤ (4 + (9 * i)) + 6; omega) (by show (4 + (9 * i)) + 6 < ((537 : Nat) : Int); omega) (hC.vn hL (by show ((4 + (9 * i)) + 6).toNat = 10 + 9 * i.toNat; omega) (by show 10 + 9 * i.toNat < 221; omega)) ?_
                  refine w_iret (fun q => by cases q) ?_
                  refine w_add ⟨by show (-2147483648 : Int) ≤ c + (H (10 + 9 * i.toNat)); omega, by show c + (H (10 + 9 * i.toNat)) < (2147483648 : Int); omega⟩ ?_
                  refine w_is ?_
                  show wz _ _ _ _ [some (.inr (.inr (some m))), some (.inl x), some (.inl mi), some (.inl (ye_wy H g L)), some (.inl (c + (H (10 + 9 * i.toNat)))), some (.inl i), y6] _ _ _ _ _
                  refine w_ii rfl ⟨by show (-2147483648 : Int) ≤ i + 1; omega, by show i + 1 < (2147483648 : Int); omega⟩ ?_
                  show wz _ _ _ _ [some (.inr (.inr (some m))), some (.inl x), some (.inl mi), some (.inl (ye_wy H g L)), some (.inl (c + (H (10 + 9 * i.toNat)))), some (.inl (i + 1)), y6] _ _ _ _ _
                  refine w_goto ?_
                  refine ih (i + 1) _ _ _ (by omega) (by omega) ?_ h
                  have kL : ye_cb H A B mi.toNat L (i + 1) = ye_cb H A B mi.toNat L i := by
                    unfold ye_cb
                    by_cases q : 0 ≤ L ∧ L < i
                    · rw [if_pos q, if_pos (by omega)]
                    · rw [if_neg q, if_neg (by omega)]
                  have kO : ye_cb H A B mi.toNat O (i + 1) = (H (10 + 9 * i.toNat)) ∧ ye_cb H A B mi.toNat O i = 0 := by
                    unfold ye_cb ye_br
                    rw [if_pos (by omega), if_neg (by omega : ¬ (0 ≤ O ∧ O < i)), show mi.toNat - 1 = (mi - 1).toNat by omega, show O.toNat = i.toNat by omega]
                    rw [if_neg (by omega)]
                    first | (rw [if_pos (by omega)]; exact ⟨rfl, rfl⟩) | (rw [if_neg (by omega)]; exact ⟨rfl, rfl⟩)
                  omega
              · skip
                refine w_ic ?_
                refine w_goto ?_
                refine w_iret (fun _ => Or.inr rfl) ?_
                refine w_ifne (fun c17 => ?_) (fun c17 => ?_)
                · skip
                  refine w_ii rfl ⟨by show (-2147483648 : Int) ≤ i + 1; omega, by show i + 1 < (2147483648 : Int); omega⟩ ?_
                  show wz _ _ _ _ [some (.inr (.inr (some m))), some (.inl x), some (.inl mi), some (.inl (ye_wy H g L)), some (.inl c), some (.inl (i + 1)), y6] _ _ _ _ _
                  refine w_goto ?_
                  refine ih (i + 1) _ _ _ (by omega) (by omega) ?_ h
                  have kL : ye_cb H A B mi.toNat L (i + 1) = ye_cb H A B mi.toNat L i := by
                    unfold ye_cb
                    by_cases q : 0 ≤ L ∧ L < i
                    · rw [if_pos q, if_pos (by omega)]
                    · rw [if_neg q, if_neg (by omega)]
                  have kO : ye_cb H A B mi.toNat O (i + 1) = 0 ∧ ye_cb H A B mi.toNat O i = 0 := by
                    unfold ye_cb ye_br
                    rw [if_pos (by omega), if_neg (by omega : ¬ (0 ≤ O ∧ O < i)), show mi.toNat - 1 = (mi - 1).toNat by omega, show O.toNat = i.toNat by omega]
                    rw [if_neg (by omega)]
                    first | (rw [if_pos (by omega)]; exact ⟨rfl, rfl⟩) | (rw [if_neg (by omega)]; exact ⟨rfl, rfl⟩)
                  omega
                · exfalso; omega
theorem r_moR3 {G : mj_G} {M M0 : mj_M} {s m : Nat} {H : Nat → Int} {g A B C : Nat → Int} {R : Nat → Nat → Int} {L O P : Int} {Q : mj_P} {d : Nat} {y5 y6 : Option mj_V} {x mi : Int} (hL : yq_L G M0 s m H) (hC : yq_S s m M0 g A B C R L O P M) {cb sb : Nat} (hT : ∀ j, 4 ≤ j → j < 76 → 0 ≤ H j ∧ H j ≤ 999) (hm : g 222 = mi) (m0 : 0 ≤ mi ∧ mi ≤ 11) (hx : 0 ≤ x ∧ x ≤ 99) (hw : 0 ≤ H (76 + mi.toNat) ∧ H (76 + mi.toNat) ≤ 999) (hl : L = 8 ∨ (0 ≤ L ∧ L ≤ 7)) (ho : O = -1 ∨ (0 ≤ O ∧ O ≤ 7)) (hlo : L = 8 → O = -1) (hn : L ≠ O) (hp : 0 ≤ P ∧ P ≤ 999) (b224 : -1000000 ≤ g 224 ∧ g 224 ≤ 1000000) (b226 : -1000000 ≤ g 226 ∧ g 226 ≤ 1000000) (b228 : -1000000 ≤ g 228 ∧ g 228 ≤ 1000000) (b229 : -1000000 ≤ g 229 ∧ g 229 ≤ 1000000) (b230 : -1000000 ≤ g 230 ∧ g 230 ≤ 1000000) (b231 : -1000000 ≤ g 231 ∧ g 231 ≤ 1000000) (b225 : 0 ≤ g 225 ∧ g 225 ≤ 999) (hy : 0 ≤ ye_wy H g L ∧ ye_wy H g L ≤ 8) (hc : 0 ≤ ye_co H g A B mi.toNat L O ∧ ye_co H g A B mi.toNat L O ≤ 5000) (hR0 : ∀ t, t < 8 → (0 ≤ R t 0 ∧ R t 0 ≤ 999) ∧ (-100000 ≤ R t 6 ∧ R t 6 ≤ 100000)) (h : ∀ M, (yq_S s m M0 (ye_g2 H R (rv_up (ye_g1 H g A B mi.toNat L O P) 226 ((ye_g1 H g A B mi.toNat L O P) 226 + (H (76 + mi.toNat) + x))) L O (H (76 + mi.toNat) + x)) (rv_up A mi.toNat L) (rv_up B mi.toNat O) (rv_up C mi.toNat P) (ye_R2 H R L O (H (76 + mi.toNat) + x)) L O P M) → wz (d + 3) mt_X12_month.2.2.2.2.1 Q (mt_X12_month.2.2.2.2.1.drop 199) [some (.inr (.inr (some m))), some (.inl x), some (.inl mi), some (.inl (ye_wy H g L)), some (.inl (ye_co H g A B mi.toNat L O)), some (.inl (H (76 + mi.toNat) + x)), some (.inl 0)] [] G M cb sb) : wz (d + 3) mt_X12_month.2.2.2.2.1 Q (mt_X12_month.2.2.2.2.1.drop 58) [some (.inr (.inr (some m))), some (.inl x), some (.inl mi), some (.inl (ye_wy H g L)), some (.inl (ye_co H g A B mi.toNat L O)), y5, y6] [] G M cb sb := by
  have hin : ∀ (R2 : Nat → Nat → Int) (t z2 : Int), 0 ≤ t → t ≤ 7 → 0 ≤ z2 → z2 ≤ 2000 → 0 ≤ R2 t.toNat 0 → R2 t.toNat 0 ≤ 999 → (0 ≤ ye_se H t z2 ∧ ye_se H t z2 ≤ z2) ∧ -999 ≤ ye_in H R2 t z2 ∧ ye_in H R2 t z2 ≤ 2000 := fun R2 t z2 t1 t2 t3 t4 t5 t6 => by
    have t0 := hT (5 + 9 * t.toNat) (by omega) (by omega)
    have h2 := ye_se_b hT t1 t2 t3
    refine ⟨h2, ?_⟩
    unfold ye_in; split <;> omega
  refine w_aln rfl ?_
  refine w_gr hL.gm rfl (by decide) rfl (hC.vr hL.m6) ?_
  refine w_sp ?_
  refine w_dup2 ?_
  refine w_iald (v := (g 224)) hL.gs rfl (by show (0 : Int) ≤ 224; omega) (by show 224 < ((537 : Nat) : Int); omega) (hC.vg (k := 224) (by decide) (by decide)) ?_
  refine w_aln rfl ?_
  refine w_gi hL.gm rfl (by decide) rfl (hC.2.2.2.1.2.2) ?_
  refine w_il rfl ?_
  refine w_sub ⟨by show (-2147483648 : Int) ≤ P - (ye_co H g A B mi.toNat L O); omega, by show P - (ye_co H g A B mi.toNat L O) < (2147483648 : Int); omega⟩ ?_
  refine w_add ⟨by show (-2147483648 : Int) ≤ (g 224) + (P - (ye_co H g A B mi.toNat L O)); omega, by show (g 224) + (P - (ye_co H g A B mi.toNat L O)) < (2147483648 : Int); omega⟩ ?_
  refine w_iast hL.gs rfl (by decide) (by show (0 : Int) ≤ 224; omega) (by show 224 < ((537 : Nat) : Int); omega) ?_
  have hC1 := hC.pg (k := 224) (v := (g 224) + (P - (ye_co H g A B mi.toNat L O))) hL (by decide) (by decide) (by show (224 : Int).toNat = 224; omega)
  refine w_aln rfl ?_
  refine w_gr hL.gm rfl (by decide) rfl (hC1.vr hL.m6) ?_
  refine w_sp ?_
  refine w_dup2 ?_
  refine w_iald (v := (g 231)) hL.gs rfl (by show (0 : Int) ≤ 231; omega) (by show 231 < ((537 : Nat) : Int); omega) ((hC1.vg (k := 231) (by decide) (by decide)).trans ((rv_up_n (by decide)))) ?_
  refine w_il rfl ?_
  refine w_add ⟨by show (-2147483648 : Int) ≤ (g 231) + (ye_co H g A B mi.toNat L O); omega, by show (g 231) + (ye_co H g A B mi.toNat L O) < (2147483648 : Int); omega⟩ ?_
  refine w_iast hL.gs rfl (by decide) (by show (0 : Int) ≤ 231; omega) (by show 231 < ((537 : Nat) : Int); omega) ?_
  have hC2 := hC1.pg (k := 231) (v := (g 231) + (ye_co H g A B mi.toNat L O)) hL (by decide) (by decide) (by show (231 : Int).toNat = 231; omega)
  refine w_aln rfl ?_
  refine w_gr hL.gm rfl (by decide) rfl (hC2.vr hL.m6) ?_
  refine w_sp ?_
  refine w_aln rfl ?_
  refine w_gr hL.gm rfl (by decide) rfl (hC2.vr hL.m6) ?_
  refine w_sp ?_
  refine w_iald (v := (g 225)) hL.gs rfl (by show (0 : Int) ≤ 225; omega) (by show 225 < ((537 : Nat) : Int); omega) ((hC2.vg (k := 225) (by decide) (by decide)).trans ((rv_up_n (by decide)).trans ((rv_up_n (by decide))))) ?_
  refine w_iln rfl ?_
  refine w_cmle (fun c3 => ?_) (fun c3 => ?_)
  · skip
    refine w_ic ?_
    refine w_iast hL.gs rfl (by decide) (by show (0 : Int) ≤ 225; omega) (by show 225 < ((537 : Nat) : Int); omega) ?_
    have hC4 := hC2.pg (k := 225) (v := 0) hL (by decide) (by decide) (by show (225 : Int).toNat = 225; omega)
    refine w_aln rfl ?_
    refine w_gr hL.gm rfl (by decide) rfl (hC4.vr hL.m6) ?_
    refine w_sp ?_
    refine w_aln rfl ?_
    refine w_gi hL.gm rfl (by decide) rfl (hC4.2.2.2.1.1) ?_
    refine w_iast hL.gs rfl (by decide) (by show (0 : Int) ≤ 223; omega) (by show 223 < ((537 : Nat) : Int); omega) ?_
    have hC5 := hC4.pg (k := 223) (v := L) hL (by decide) (by decide) (by show (223 : Int).toNat = 223; omega)
    refine w_aln rfl ?_
    refine w_gr hL.gm rfl (by decide) rfl (hC5.vr hL.m6) ?_
    refine w_bp ?_
    refine w_iln rfl ?_
    refine w_add ⟨by show (-2147483648 : Int) ≤ 76 + mi; omega, by show 76 + mi < (2147483648 : Int); omega⟩ ?_
    refine w_iald (v := (H (76 + mi.toNat))) hL.gs rfl (by show (0 : Int) ≤ 76 + mi; omega) (by show 76 + mi < ((537 : Nat) : Int); omega) (hC5.vn hL (by show (76 + mi).toNat = 76 + mi.toNat; omega) (by show 76 + mi.toNat < 221; omega)) ?_
    refine w_iln rfl ?_
    refine w_add ⟨by show (-2147483648 : Int) ≤ (H (76 + mi.toNat)) + x; omega, by show (H (76 + mi.toNat)) + x < (2147483648 : Int); omega⟩ ?_
    refine w_is ?_
    show wz _ _ _ _ [some (.inr (.inr (some m))), some (.inl x), some (.inl mi), some (.inl (ye_wy H g L)), some (.inl (ye_co H g A B mi.toNat L O)), some (.inl ((H (76 + mi.toNat)) + x)), y6] _ _ _ _ _
    refine w_aln rfl ?_
    refine w_gr hL.gm rfl (by decide) rfl (hC5.vr hL.m6) ?_
    refine w_sp ?_
    refine w_dup2 ?_
    refine w_iald (v := (g 226)) hL.gs rfl (by show (0 : Int) ≤ 226; omega) (by show 226 < ((537 : Nat) : Int); omega) ((hC5.vg (k := 226) (by decide) (by decide)).trans ((rv_up_n (by decide)).trans ((rv_up_n (by decide)).trans ((rv_up_n (by decide)).trans ((rv_up_n (by decide))))))) ?_
    refine w_il rfl ?_
    refine w_add ⟨by show (-2147483648 : Int) ≤ (g 226) + ((H (76 + mi.toNat)) + x); omega, by show (g 226) + ((H (76 + mi.toNat)) + x) < (2147483648 : Int); omega⟩ ?_
    refine w_iast hL.gs rfl (by decide) (by show (0 : Int) ≤ 226; omega) (by show 226 < ((537 : Nat) : Int); omega) ?_
    have hC6 := hC5.pg (k := 226) (v := (g 226) + ((H (76 + mi.toNat)) + x)) hL (by decide) (by decide) (by show (226 : Int).toNat = 226; omega)
    refine w_aln rfl ?_
    refine w_gi hL.gm rfl (by decide) rfl (hC6.2.2.2.1.1) ?_
    refine w_bp ?_
    refine w_cmne (fun c7 => ?_) (fun c7 => ?_)
    · skip
      refine w_aln rfl ?_
      refine w_aln rfl ?_
      refine w_gi hL.gm rfl (by decide) rfl (hC6.2.2.2.1.1) ?_
      refine w_aln rfl ?_
      refine w_gi hL.gm rfl (by decide) rfl (hC6.2.2.2.1.2.1) ?_
      refine w_ifge (fun c8 => ?_) (fun c8 => ?_)
      · skip
        refine w_il rfl ?_
        refine w_ic ?_
        refine w_add ⟨by show (-2147483648 : Int) ≤ ((H (76 + mi.toNat)) + x) + 1; omega, by show ((H (76 + mi.toNat)) + x) + 1 < (2147483648 : Int); omega⟩ ?_
        refine w_ic ?_
        refine w_div (by decide) ?_
        intro z9 hz9 ez9
        obtain rfl : z9 = ((((H (76 + mi.toNat)) + x) + 1) / 2) := ye_half (by omega) (by omega) ez9
        refine w_cv (st := []) rfl hL.gm rfl (Nat.le_of_ble_eq_true rfl) (fun kk h => h) (r_X12_comes (d := d + 1) hL hC6 (by show 0 ≤ L ∧ L ≤ 7; omega) (by show 0 ≤ ((((H (76 + mi.toNat)) + x) + 1) / 2) ∧ ((((H (76 + mi.toNat)) + x) + 1) / 2) ≤ 2000; omega) hT (((hR0 _ (by show L.toNat < 8; omega)).1).imp (fun q => by omega) (fun q => by omega)) (((hR0 _ (by show L.toNat < 8; omega)).2).imp (fun q => by omega) (fun q => by omega)) (by rw [show (rv_up (rv_up (rv_up (rv_up (rv_up g 224 ((g 224) + (P - (ye_co H g A B mi.toNat L O)))) 231 ((g 231) + (ye_co H g A B mi.toNat L O))) 225 0) 223 L) 226 ((g 226) + ((H (76 + mi.toNat)) + x))) 228 = g 228 from (rv_up_n (by decide)).trans ((rv_up_n (by decide)).trans ((rv_up_n (by decide)).trans ((rv_up_n (by decide)).trans ((rv_up_n (by decide))))))]; omega) (by rw [show (rv_up (rv_up (rv_up (rv_up (rv_up g 224 ((g 224) + (P - (ye_co H g A B mi.toNat L O)))) 231 ((g 231) + (ye_co H g A B mi.toNat L O))) 225 0) 223 L) 226 ((g 226) + ((H (76 + mi.toNat)) + x))) 229 = g 229 from (rv_up_n (by decide)).trans ((rv_up_n (by decide)).trans ((rv_up_n (by decide)).trans ((rv_up_n (by decide)).trans ((rv_up_n (by decide))))))]; omega) (fun M10 hC11 => ?_))
        have g312 : (ye_c1 H R (rv_up (rv_up (rv_up (rv_up (rv_up g 224 ((g 224) + (P - (ye_co H g A B mi.toNat L O)))) 231 ((g 231) + (ye_co H g A B mi.toNat L O))) 225 0) 223 L) 226 ((g 226) + ((H (76 + mi.toNat)) + x))) L ((((H (76 + mi.toNat)) + x) + 1) / 2)) 230 = g 230 := rfl
        refine w_aln rfl ?_
        refine w_gi hL.gm rfl (by decide) rfl (hC11.2.2.2.1.2.1) ?_
        refine w_iflt (fun c13 => ?_) (fun c13 => ?_)
        · exfalso; omega
        · skip
          refine w_aln rfl ?_
          refine w_aln rfl ?_
          refine w_gi hL.gm rfl (by decide) rfl (hC11.2.2.2.1.2.1) ?_
          refine w_il rfl ?_
          refine w_ic ?_
          refine w_div (by decide) ?_
          intro z14 hz14 ez14
          obtain rfl : z14 = (((H (76 + mi.toNat)) + x) / 2) := ye_half (by omega) (by omega) ez14
          have hi1 := hin R L ((((H (76 + mi.toNat)) + x) + 1) / 2) (by omega) (by omega) (by omega) (by omega) (hR0 _ (by omega)).1.1 (hR0 _ (by omega)).1.2
          refine w_cv (st := []) rfl hL.gm rfl (Nat.le_of_ble_eq_true rfl) (fun kk h => h) (r_X12_comes (d := d + 1) hL hC11 (by show 0 ≤ O ∧ O ≤ 7; omega) (by show 0 ≤ (((H (76 + mi.toNat)) + x) / 2) ∧ (((H (76 + mi.toNat)) + x) / 2) ≤ 2000; omega) hT (by rw [show (ye_cR H R L ((((H (76 + mi.toNat)) + x) + 1) / 2)) = ye_ru R L.toNat _ from rfl, ye_ru_n (show O.toNat ≠ L.toNat by omega)]; have q := hR0 O.toNat (by omega); omega) (by rw [show (ye_cR H R L ((((H (76 + mi.toNat)) + x) + 1) / 2)) = ye_ru R L.toNat _ from rfl, ye_ru_n (show O.toNat ≠ L.toNat by omega)]; have q := hR0 O.toNat (by omega); omega) (by rw [show (ye_c1 H R (rv_up (rv_up (rv_up (rv_up (rv_up g 224 ((g 224) + (P - (ye_co H g A B mi.toNat L O)))) 231 ((g 231) + (ye_co H g A B mi.toNat L O))) 225 0) 223 L) 226 ((g 226) + ((H (76 + mi.toNat)) + x))) L ((((H (76 + mi.toNat)) + x) + 1) / 2)) 228 = g 228 + ye_se H L ((((H (76 + mi.toNat)) + x) + 1) / 2) from rfl]; omega) (by rw [show (ye_c1 H R (rv_up (rv_up (rv_up (rv_up (rv_up g 224 ((g 224) + (P - (ye_co H g A B mi.toNat L O)))) 231 ((g 231) + (ye_co H g A B mi.toNat L O))) 225 0) 223 L) 226 ((g 226) + ((H (76 + mi.toNat)) + x))) L ((((H (76 + mi.toNat)) + x) + 1) / 2)) 229 = g 229 + (((((H (76 + mi.toNat)) + x) + 1) / 2) - ye_se H L ((((H (76 + mi.toNat)) + x) + 1) / 2) - ye_in H R L ((((H (76 + mi.toNat)) + x) + 1) / 2)) from rfl]; omega) (fun M15 hC16 => ?_))
          have g317 : (ye_c1 H (ye_cR H R L ((((H (76 + mi.toNat)) + x) + 1) / 2)) (ye_c1 H R (rv_up (rv_up (rv_up (rv_up (rv_up g 224 ((g 224) + (P - (ye_co H g A B mi.toNat L O)))) 231 ((g 231) + (ye_co H g A B mi.toNat L O))) 225 0) 223 L) 226 ((g 226) + ((H (76 + mi.toNat)) + x))) L ((((H (76 + mi.toNat)) + x) + 1) / 2)) O (((H (76 + mi.toNat)) + x) / 2)) 230 = g 230 := rfl
          refine w_aln rfl ?_
          refine w_gr hL.gm rfl (by decide) rfl (hC16.vr hL.m6) ?_
          refine w_sp ?_
          refine w_dup2 ?_
          refine w_iald (v := ((ye_c1 H (ye_cR H R L ((((H (76 + mi.toNat)) + x) + 1) / 2)) (ye_c1 H R (rv_up (rv_up (rv_up (rv_up (rv_up g 224 ((g 224) + (P - (ye_co H g A B mi.toNat L O)))) 231 ((g 231) + (ye_co H g A B mi.toNat L O))) 225 0) 223 L) 226 ((g 226) + ((H (76 + mi.toNat)) + x))) L ((((H (76 + mi.toNat)) + x) + 1) / 2)) O (((H (76 + mi.toNat)) + x) / 2)) 230)) hL.gs rfl (by show (0 : Int) ≤ 230; omega) (by show 230 < ((537 : Nat) : Int); omega) (hC16.vg (k := 230) (by decide) (by decide)) ?_
          refine w_ic ?_
          refine w_add ⟨by show (-2147483648 : Int) ≤ ((ye_c1 H (ye_cR H R L ((((H (76 + mi.toNat)) + x) + 1) / 2)) (ye_c1 H R (rv_up (rv_up (rv_up (rv_up (rv_up g 224 ((g 224) + (P - (ye_co H g A B mi.toNat L O)))) 231 ((g 231) + (ye_co H g A B mi.toNat L O))) 225 0) 223 L) 226 ((g 226) + ((H (76 + mi.toNat)) + x))) L ((((H (76 + mi.toNat)) + x) + 1) / 2)) O (((H (76 + mi.toNat)) + x) / 2)) 230) + 1; omega, by show ((ye_c1 H (ye_cR H R L ((((H (76 + mi.toNat)) + x) + 1) / 2)) (ye_c1 H R (rv_up (rv_up (rv_up (rv_up (rv_up g 224 ((g 224) + (P - (ye_co H g A B mi.toNat L O)))) 231 ((g 231) + (ye_co H g A B mi.toNat L O))) 225 0) 223 L) 226 ((g 226) + ((H (76 + mi.toNat)) + x))) L ((((H (76 + mi.toNat)) + x) + 1) / 2)) O (((H (76 + mi.toNat)) + x) / 2)) 230) + 1 < (2147483648 : Int); omega⟩ ?_
          refine w_iast hL.gs rfl (by decide) (by show (0 : Int) ≤ 230; omega) (by show 230 < ((537 : Nat) : Int); omega) ?_
          have hC18 := hC16.pg (k := 230) (v := ((ye_c1 H (ye_cR H R L ((((H (76 + mi.toNat)) + x) + 1) / 2)) (ye_c1 H R (rv_up (rv_up (rv_up (rv_up (rv_up g 224 ((g 224) + (P - (ye_co H g A B mi.toNat L O)))) 231 ((g 231) + (ye_co H g A B mi.toNat L O))) 225 0) 223 L) 226 ((g 226) + ((H (76 + mi.toNat)) + x))) L ((((H (76 + mi.toNat)) + x) + 1) / 2)) O (((H (76 + mi.toNat)) + x) / 2)) 230) + 1) hL (by decide) (by decide) (by show (230 : Int).toNat = 230; omega)
          refine w_aln rfl ?_
          refine w_gr hL.gm rfl (by decide) rfl (hC18.vr hL.m6) ?_
          refine w_sp ?_
          refine w_ic ?_
          refine w_iln rfl ?_
          refine w_mul ⟨by show (-2147483648 : Int) ≤ 3 * mi; omega, by show 3 * mi < (2147483648 : Int); omega⟩ ?_
          refine w_add ⟨by show (-2147483648 : Int) ≤ 320 + (3 * mi); omega, by show 320 + (3 * mi) < (2147483648 : Int); omega⟩ ?_
          refine w_aln rfl ?_
          refine w_gi hL.gm rfl (by decide) rfl (hC18.2.2.2.1.1) ?_
          refine w_iast hL.gs rfl (by decide) (by show (0 : Int) ≤ 320 + (3 * mi); omega) (by show 320 + (3 * mi) < ((537 : Nat) : Int); omega) ?_
          have hC19 := hC18.pA (k := mi.toNat) (v := L) hL (by show (320 + (3 * mi)).toNat = 320 + 3 * mi.toNat; omega) (by show mi.toNat < 12; omega)
          refine w_aln rfl ?_
          refine w_gr hL.gm rfl (by decide) rfl (hC19.vr hL.m6) ?_
          refine w_sp ?_
          refine w_ic ?_
          refine w_iln rfl ?_
          refine w_mul ⟨by show (-2147483648 : Int) ≤ 3 * mi; omega, by show 3 * mi < (2147483648 : Int); omega⟩ ?_
          refine w_add ⟨by show (-2147483648 : Int) ≤ 320 + (3 * mi); omega, by show 320 + (3 * mi) < (2147483648 : Int); omega⟩ ?_
          refine w_ic ?_
          refine w_add ⟨by show (-2147483648 : Int) ≤ (320 + (3 * mi)) + 1; omega, by show (320 + (3 * mi)) + 1 < (2147483648 : Int); omega⟩ ?_
          refine w_aln rfl ?_
          refine w_gi hL.gm rfl (by decide) rfl (hC19.2.2.2.1.2.1) ?_
          refine w_iast hL.gs rfl (by decide) (by show (0 : Int) ≤ (320 + (3 * mi)) + 1; omega) (by show (320 + (3 * mi)) + 1 < ((537 : Nat) : Int); omega) ?_
          have hC20 := hC19.pB (k := mi.toNat) (v := O) hL (by show ((320 + (3 * mi)) + 1).toNat = 321 + 3 * mi.toNat; omega) (by show mi.toNat < 12; omega)
          refine w_aln rfl ?_
          refine w_gr hL.gm rfl (by decide) rfl (hC20.vr hL.m6) ?_
          refine w_sp ?_
          refine w_ic ?_
          refine w_iln rfl ?_
          refine w_mul ⟨by show (-2147483648 : Int) ≤ 3 * mi; omega, by show 3 * mi < (2147483648 : Int); omega⟩ ?_
          refine w_add ⟨by show (-2147483648 : Int) ≤ 320 + (3 * mi); omega, by show 320 + (3 * mi) < (2147483648 : Int); omega⟩ ?_
          refine w_ic ?_
          refine w_add ⟨by show (-2147483648 : Int) ≤ (320 + (3 * mi)) + 2; omega, by show (320 + (3 * mi)) + 2 < (2147483648 : Int); omega⟩ ?_
          refine w_aln rfl ?_
          refine w_gi hL.gm rfl (by decide) rfl (hC20.2.2.2.1.2.2) ?_
          refine w_iast hL.gs rfl (by decide) (by show (0 : Int) ≤ (320 + (3 * mi)) + 2; omega) (by show (320 + (3 * mi)) + 2 < ((537 : Nat) : Int); omega) ?_
          have hC21 := hC20.pC (k := mi.toNat) (v := P) hL (by show ((320 + (3 * mi)) + 2).toNat = 322 + 3 * mi.toNat; omega) (by show mi.toNat < 12; omega)
          refine w_ic ?_
          refine w_is ?_
          show wz _ _ _ _ [some (.inr (.inr (some m))), some (.inl x), some (.inl mi), some (.inl (ye_wy H g L)), some (.inl (ye_co H g A B mi.toNat L O)), some (.inl ((H (76 + mi.toNat)) + x)), some (.inl 0)] _ _ _ _ _
          refine h _ (yq_S.cg hC21 ?_ ?_)
          · unfold ye_g2; rw [if_neg (by omega), if_neg (by omega)]
            rw [show (H (76 + mi.toNat) + x) - (H (76 + mi.toNat) + x) / 2 = ((((H (76 + mi.toNat)) + x) + 1) / 2) by omega]
            refine ye_10 rfl rfl ?_ ?_ rfl rfl rfl rfl rfl rfl
            · exact (show g 224 + (P - ye_co H g A B mi.toNat L O) = g 224 + P - ye_co H g A B mi.toNat L O by omega)
            · exact (show 0 = (if g 225 - ye_wy H g L < 0 then 0 else g 225 - ye_wy H g L) by split <;> omega)
          · unfold ye_R2; rw [if_neg (by omega), if_neg (by omega), show (H (76 + mi.toNat) + x) - (H (76 + mi.toNat) + x) / 2 = ((((H (76 + mi.toNat)) + x) + 1) / 2) by omega]; exact fun _ _ _ _ => rfl
          
      · skip
        refine w_il rfl ?_
        refine w_goto ?_
        refine w_cv (st := []) rfl hL.gm rfl (Nat.le_of_ble_eq_true rfl) (fun kk h => h) (r_X12_comes (d := d + 1) hL hC6 (by show 0 ≤ L ∧ L ≤ 7; omega) (by show 0 ≤ (H (76 + mi.toNat)) + x ∧ (H (76 + mi.toNat)) + x ≤ 2000; omega) hT (((hR0 _ (by show L.toNat < 8; omega)).1).imp (fun q => by omega) (fun q => by omega)) (((hR0 _ (by show L.toNat < 8; omega)).2).imp (fun q => by omega) (fun q => by omega)) (by rw [show (rv_up (rv_up (rv_up (rv_up (rv_up g 224 ((g 224) + (P - (ye_co H g A B mi.toNat L O)))) 231 ((g 231) + (ye_co H g A B mi.toNat L O))) 225 0) 223 L) 226 ((g 226) + ((H (76 + mi.toNat)) + x))) 228 = g 228 from (rv_up_n (by decide)).trans ((rv_up_n (by decide)).trans ((rv_up_n (by decide)).trans ((rv_up_n (by decide)).trans ((rv_up_n (by decide))))))]; omega) (by rw [show (rv_up (rv_up (rv_up (rv_up (rv_up g 224 ((g 224) + (P - (ye_co H g A B mi.toNat L O)))) 231 ((g 231) + (ye_co H g A B mi.toNat L O))) 225 0) 223 L) 226 ((g 226) + ((H (76 + mi.toNat)) + x))) 229 = g 229 from (rv_up_n (by decide)).trans ((rv_up_n (by decide)).trans ((rv_up_n (by decide)).trans ((rv_up_n (by decide)).trans ((rv_up_n (by decide))))))]; omega) (fun M22 hC23 => ?_))
        have g324 : (ye_c1 H R (rv_up (rv_up (rv_up (rv_up (rv_up g 224 ((g 224) + (P - (ye_co H g A B mi.toNat L O)))) 231 ((g 231) + (ye_co H g A B mi.toNat L O))) 225 0) 223 L) 226 ((g 226) + ((H (76 + mi.toNat)) + x))) L ((H (76 + mi.toNat)) + x)) 230 = g 230 := rfl
        refine w_aln rfl ?_
        refine w_gi hL.gm rfl (by decide) rfl (hC23.2.2.2.1.2.1) ?_
        refine w_iflt (fun c25 => ?_) (fun c25 => ?_)
        · skip
          refine w_aln rfl ?_
          refine w_gr hL.gm rfl (by decide) rfl (hC23.vr hL.m6) ?_
          refine w_sp ?_
          refine w_dup2 ?_
          refine w_iald (v := ((ye_c1 H R (rv_up (rv_up (rv_up (rv_up (rv_up g 224 ((g 224) + (P - (ye_co H g A B mi.toNat L O)))) 231 ((g 231) + (ye_co H g A B mi.toNat L O))) 225 0) 223 L) 226 ((g 226) + ((H (76 + mi.toNat)) + x))) L ((H (76 + mi.toNat)) + x)) 230)) hL.gs rfl (by show (0 : Int) ≤ 230; omega) (by show 230 < ((537 : Nat) : Int); omega) (hC23.vg (k := 230) (by decide) (by decide)) ?_
          refine w_ic ?_
          refine w_add ⟨by show (-2147483648 : Int) ≤ ((ye_c1 H R (rv_up (rv_up (rv_up (rv_up (rv_up g 224 ((g 224) + (P - (ye_co H g A B mi.toNat L O)))) 231 ((g 231) + (ye_co H g A B mi.toNat L O))) 225 0) 223 L) 226 ((g 226) + ((H (76 + mi.toNat)) + x))) L ((H (76 + mi.toNat)) + x)) 230) + 1; omega, by show ((ye_c1 H R (rv_up (rv_up (rv_up (rv_up (rv_up g 224 ((g 224) + (P - (ye_co H g A B mi.toNat L O)))) 231 ((g 231) + (ye_co H g A B mi.toNat L O))) 225 0) 223 L) 226 ((g 226) + ((H (76 + mi.toNat)) + x))) L ((H (76 + mi.toNat)) + x)) 230) + 1 < (2147483648 : Int); omega⟩ ?_
          refine w_iast hL.gs rfl (by decide) (by show (0 : Int) ≤ 230; omega) (by show 230 < ((537 : Nat) : Int); omega) ?_
          have hC26 := hC23.pg (k := 230) (v := ((ye_c1 H R (rv_up (rv_up (rv_up (rv_up (rv_up g 224 ((g 224) + (P - (ye_co H g A B mi.toNat L O)))) 231 ((g 231) + (ye_co H g A B mi.toNat L O))) 225 0) 223 L) 226 ((g 226) + ((H (76 + mi.toNat)) + x))) L ((H (76 + mi.toNat)) + x)) 230) + 1) hL (by decide) (by decide) (by show (230 : Int).toNat = 230; omega)
          refine w_aln rfl ?_
          refine w_gr hL.gm rfl (by decide) rfl (hC26.vr hL.m6) ?_
          refine w_sp ?_
          refine w_ic ?_
          refine w_iln rfl ?_
          refine w_mul ⟨by show (-2147483648 : Int) ≤ 3 * mi; omega, by show 3 * mi < (2147483648 : Int); omega⟩ ?_
          refine w_add ⟨by show (-2147483648 : Int) ≤ 320 + (3 * mi); omega, by show 320 + (3 * mi) < (2147483648 : Int); omega⟩ ?_
          refine w_aln rfl ?_
          refine w_gi hL.gm rfl (by decide) rfl (hC26.2.2.2.1.1) ?_
          refine w_iast hL.gs rfl (by decide) (by show (0 : Int) ≤ 320 + (3 * mi); omega) (by show 320 + (3 * mi) < ((537 : Nat) : Int); omega) ?_
          have hC27 := hC26.pA (k := mi.toNat) (v := L) hL (by show (320 + (3 * mi)).toNat = 320 + 3 * mi.toNat; omega) (by show mi.toNat < 12; omega)
          refine w_aln rfl ?_
          refine w_gr hL.gm rfl (by decide) rfl (hC27.vr hL.m6) ?_
          refine w_sp ?_
          refine w_ic ?_
          refine w_iln rfl ?_
          refine w_mul ⟨by show (-2147483648 : Int) ≤ 3 * mi; omega, by show 3 * mi < (2147483648 : Int); omega⟩ ?_
          refine w_add ⟨by show (-2147483648 : Int) ≤ 320 + (3 * mi); omega, by show 320 + (3 * mi) < (2147483648 : Int); omega⟩ ?_
          refine w_ic ?_
          refine w_add ⟨by show (-2147483648 : Int) ≤ (320 + (3 * mi)) + 1; omega, by show (320 + (3 * mi)) + 1 < (2147483648 : Int); omega⟩ ?_
          refine w_aln rfl ?_
          refine w_gi hL.gm rfl (by decide) rfl (hC27.2.2.2.1.2.1) ?_
          refine w_iast hL.gs rfl (by decide) (by show (0 : Int) ≤ (320 + (3 * mi)) + 1; omega) (by show (320 + (3 * mi)) + 1 < ((537 : Nat) : Int); omega) ?_
          have hC28 := hC27.pB (k := mi.toNat) (v := O) hL (by show ((320 + (3 * mi)) + 1).toNat = 321 + 3 * mi.toNat; omega) (by show mi.toNat < 12; omega)
          refine w_aln rfl ?_
          refine w_gr hL.gm rfl (by decide) rfl (hC28.vr hL.m6) ?_
          refine w_sp ?_
          refine w_ic ?_
          refine w_iln rfl ?_
          refine w_mul ⟨by show (-2147483648 : Int) ≤ 3 * mi; omega, by show 3 * mi < (2147483648 : Int); omega⟩ ?_
          refine w_add ⟨by show (-2147483648 : Int) ≤ 320 + (3 * mi); omega, by show 320 + (3 * mi) < (2147483648 : Int); omega⟩ ?_
          refine w_ic ?_
          refine w_add ⟨by show (-2147483648 : Int) ≤ (320 + (3 * mi)) + 2; omega, by show (320 + (3 * mi)) + 2 < (2147483648 : Int); omega⟩ ?_
          refine w_aln rfl ?_
          refine w_gi hL.gm rfl (by decide) rfl (hC28.2.2.2.1.2.2) ?_
          refine w_iast hL.gs rfl (by decide) (by show (0 : Int) ≤ (320 + (3 * mi)) + 2; omega) (by show (320 + (3 * mi)) + 2 < ((537 : Nat) : Int); omega) ?_
          have hC29 := hC28.pC (k := mi.toNat) (v := P) hL (by show ((320 + (3 * mi)) + 2).toNat = 322 + 3 * mi.toNat; omega) (by show mi.toNat < 12; omega)
          refine w_ic ?_
          refine w_is ?_
          show wz _ _ _ _ [some (.inr (.inr (some m))), some (.inl x), some (.inl mi), some (.inl (ye_wy H g L)), some (.inl (ye_co H g A B mi.toNat L O)), some (.inl ((H (76 + mi.toNat)) + x)), some (.inl 0)] _ _ _ _ _
          refine h _ (yq_S.cg hC29 ?_ ?_)
          · unfold ye_g2; rw [if_neg (by omega), if_pos (by omega)]
            refine ye_10 rfl rfl ?_ ?_ rfl rfl rfl rfl rfl rfl
            · exact (show g 224 + (P - ye_co H g A B mi.toNat L O) = g 224 + P - ye_co H g A B mi.toNat L O by omega)
            · exact (show 0 = (if g 225 - ye_wy H g L < 0 then 0 else g 225 - ye_wy H g L) by split <;> omega)
          · unfold ye_R2; rw [if_neg (by omega), if_pos (by omega)]; exact fun _ _ _ _ => rfl
          
        · exfalso; omega
    · skip
      refine w_aln rfl ?_
      refine w_gr hL.gm rfl (by decide) rfl (hC6.vr hL.m6) ?_
      refine w_sp ?_
      refine w_dup2 ?_
      refine w_iald (v := (g 229)) hL.gs rfl (by show (0 : Int) ≤ 229; omega) (by show 229 < ((537 : Nat) : Int); omega) ((hC6.vg (k := 229) (by decide) (by decide)).trans ((rv_up_n (by decide)).trans ((rv_up_n (by decide)).trans ((rv_up_n (by decide)).trans ((rv_up_n (by decide)).trans ((rv_up_n (by decide)))))))) ?_
      refine w_il rfl ?_
      refine w_add ⟨by show (-2147483648 : Int) ≤ (g 229) + ((H (76 + mi.toNat)) + x); omega, by show (g 229) + ((H (76 + mi.toNat)) + x) < (2147483648 : Int); omega⟩ ?_
      refine w_iast hL.gs rfl (by decide) (by show (0 : Int) ≤ 229; omega) (by show 229 < ((537 : Nat) : Int); omega) ?_
      have hC30 := hC6.pg (k := 229) (v := (g 229) + ((H (76 + mi.toNat)) + x)) hL (by decide) (by decide) (by show (229 : Int).toNat = 229; omega)
      refine w_goto ?_
      refine w_aln rfl ?_
      refine w_gr hL.gm rfl (by decide) rfl (hC30.vr hL.m6) ?_
      refine w_sp ?_
      refine w_ic ?_
      refine w_iln rfl ?_
      refine w_mul ⟨by show (-2147483648 : Int) ≤ 3 * mi; omega, by show 3 * mi < (2147483648 : Int); omega⟩ ?_
      refine w_add ⟨by show (-2147483648 : Int) ≤ 320 + (3 * mi); omega, by show 320 + (3 * mi) < (2147483648 : Int); omega⟩ ?_
      refine w_aln rfl ?_
      refine w_gi hL.gm rfl (by decide) rfl (hC30.2.2.2.1.1) ?_
      refine w_iast hL.gs rfl (by decide) (by show (0 : Int) ≤ 320 + (3 * mi); omega) (by show 320 + (3 * mi) < ((537 : Nat) : Int); omega) ?_
      have hC31 := hC30.pA (k := mi.toNat) (v := L) hL (by show (320 + (3 * mi)).toNat = 320 + 3 * mi.toNat; omega) (by show mi.toNat < 12; omega)
      refine w_aln rfl ?_
      refine w_gr hL.gm rfl (by decide) rfl (hC31.vr hL.m6) ?_
      refine w_sp ?_
      refine w_ic ?_
      refine w_iln rfl ?_
      refine w_mul ⟨by show (-2147483648 : Int) ≤ 3 * mi; omega, by show 3 * mi < (2147483648 : Int); omega⟩ ?_
      refine w_add ⟨by show (-2147483648 : Int) ≤ 320 + (3 * mi); omega, by show 320 + (3 * mi) < (2147483648 : Int); omega⟩ ?_
      refine w_ic ?_
      refine w_add ⟨by show (-2147483648 : Int) ≤ (320 + (3 * mi)) + 1; omega, by show (320 + (3 * mi)) + 1 < (2147483648 : Int); omega⟩ ?_
      refine w_aln rfl ?_
      refine w_gi hL.gm rfl (by decide) rfl (hC31.2.2.2.1.2.1) ?_
      refine w_iast hL.gs rfl (by decide) (by show (0 : Int) ≤ (320 + (3 * mi)) + 1; omega) (by show (320 + (3 * mi)) + 1 < ((537 : Nat) : Int); omega) ?_
      have hC32 := hC31.pB (k := mi.toNat) (v := O) hL (by show ((320 + (3 * mi)) + 1).toNat = 321 + 3 * mi.toNat; omega) (by show mi.toNat < 12; omega)
      refine w_aln rfl ?_
      refine w_gr hL.gm rfl (by decide) rfl (hC32.vr hL.m6) ?_
      refine w_sp ?_
      refine w_ic ?_
      refine w_iln rfl ?_
      refine w_mul ⟨by show (-2147483648 : Int) ≤ 3 * mi; omega, by show 3 * mi < (2147483648 : Int); omega⟩ ?_
      refine w_add ⟨by show (-2147483648 : Int) ≤ 320 + (3 * mi); omega, by show 320 + (3 * mi) < (2147483648 : Int); omega⟩ ?_
      refine w_ic ?_
      refine w_add ⟨by show (-2147483648 : Int) ≤ (320 + (3 * mi)) + 2; omega, by show (320 + (3 * mi)) + 2 < (2147483648 : Int); omega⟩ ?_
      refine w_aln rfl ?_
      refine w_gi hL.gm rfl (by decide) rfl (hC32.2.2.2.1.2.2) ?_
      refine w_iast hL.gs rfl (by decide) (by show (0 : Int) ≤ (320 + (3 * mi)) + 2; omega) (by show (320 + (3 * mi)) + 2 < ((537 : Nat) : Int); omega) ?_
      have hC33 := hC32.pC (k := mi.toNat) (v := P) hL (by show ((320 + (3 * mi)) + 2).toNat = 322 + 3 * mi.toNat; omega) (by show mi.toNat < 12; omega)
      refine w_ic ?_
      refine w_is ?_
      show wz _ _ _ _ [some (.inr (.inr (some m))), some (.inl x), some (.inl mi), some (.inl (ye_wy H g L)), some (.inl (ye_co H g A B mi.toNat L O)), some (.inl ((H (76 + mi.toNat)) + x)), some (.inl 0)] _ _ _ _ _
      refine h _ (yq_S.cg hC33 ?_ ?_)
      · unfold ye_g2; rw [if_pos (by omega)]
        refine ye_10 rfl rfl ?_ ?_ rfl rfl rfl rfl rfl rfl
        · exact (show g 224 + (P - ye_co H g A B mi.toNat L O) = g 224 + P - ye_co H g A B mi.toNat L O by omega)
        · exact (show 0 = (if g 225 - ye_wy H g L < 0 then 0 else g 225 - ye_wy H g L) by split <;> omega)
      · unfold ye_R2; rw [if_pos (by omega)]; exact fun _ _ _ _ => rfl
      
  · skip
    refine w_aln rfl ?_
    refine w_gr hL.gm rfl (by decide) rfl (hC2.vr hL.m6) ?_
    refine w_sp ?_
    refine w_iald (v := (g 225)) hL.gs rfl (by show (0 : Int) ≤ 225; omega) (by show 225 < ((537 : Nat) : Int); omega) ((hC2.vg (k := 225) (by decide) (by decide)).trans ((rv_up_n (by decide)).trans ((rv_up_n (by decide))))) ?_
    refine w_iln rfl ?_
    refine w_sub ⟨by show (-2147483648 : Int) ≤ (g 225) - (ye_wy H g L); omega, by show (g 225) - (ye_wy H g L) < (2147483648 : Int); omega⟩ ?_
    refine w_goto ?_
    refine w_iast hL.gs rfl (by decide) (by show (0 : Int) ≤ 225; omega) (by show 225 < ((537 : Nat) : Int); omega) ?_
    have hC34 := hC2.pg (k := 225) (v := (g 225) - (ye_wy H g L)) hL (by decide) (by decide) (by show (225 : Int).toNat = 225; omega)
    refine w_aln rfl ?_
    refine w_gr hL.gm rfl (by decide) rfl (hC34.vr hL.m6) ?_
    refine w_sp ?_
    refine w_aln rfl ?_
    refine w_gi hL.gm rfl (by decide) rfl (hC34.2.2.2.1.1) ?_
    refine w_iast hL.gs rfl (by decide) (by show (0 : Int) ≤ 223; omega) (by show 223 < ((537 : Nat) : Int); omega) ?_
    have hC35 := hC34.pg (k := 223) (v := L) hL (by decide) (by decide) (by show (223 : Int).toNat = 223; omega)
    refine w_aln rfl ?_
    refine w_gr hL.gm rfl (by decide) rfl (hC35.vr hL.m6) ?_
    refine w_bp ?_
    refine w_iln rfl ?_
    refine w_add ⟨by show (-2147483648 : Int) ≤ 76 + mi; omega, by show 76 + mi < (2147483648 : Int); omega⟩ ?_
    refine w_iald (v := (H (76 + mi.toNat))) hL.gs rfl (by show (0 : Int) ≤ 76 + mi; omega) (by show 76 + mi < ((537 : Nat) : Int); omega) (hC35.vn hL (by show (76 + mi).toNat = 76 + mi.toNat; omega) (by show 76 + mi.toNat < 221; omega)) ?_
    refine w_iln rfl ?_
    refine w_add ⟨by show (-2147483648 : Int) ≤ (H (76 + mi.toNat)) + x; omega, by show (H (76 + mi.toNat)) + x < (2147483648 : Int); omega⟩ ?_
    refine w_is ?_
    show wz _ _ _ _ [some (.inr (.inr (some m))), some (.inl x), some (.inl mi), some (.inl (ye_wy H g L)), some (.inl (ye_co H g A B mi.toNat L O)), some (.inl ((H (76 + mi.toNat)) + x)), y6] _ _ _ _ _
    refine w_aln rfl ?_
    refine w_gr hL.gm rfl (by decide) rfl (hC35.vr hL.m6) ?_
    refine w_sp ?_
    refine w_dup2 ?_
    refine w_iald (v := (g 226)) hL.gs rfl (by show (0 : Int) ≤ 226; omega) (by show 226 < ((537 : Nat) : Int); omega) ((hC35.vg (k := 226) (by decide) (by decide)).trans ((rv_up_n (by decide)).trans ((rv_up_n (by decide)).trans ((rv_up_n (by decide)).trans ((rv_up_n (by decide))))))) ?_
    refine w_il rfl ?_
    refine w_add ⟨by show (-2147483648 : Int) ≤ (g 226) + ((H (76 + mi.toNat)) + x); omega, by show (g 226) + ((H (76 + mi.toNat)) + x) < (2147483648 : Int); omega⟩ ?_
    refine w_iast hL.gs rfl (by decide) (by show (0 : Int) ≤ 226; omega) (by show 226 < ((537 : Nat) : Int); omega) ?_
    have hC36 := hC35.pg (k := 226) (v := (g 226) + ((H (76 + mi.toNat)) + x)) hL (by decide) (by decide) (by show (226 : Int).toNat = 226; omega)
    refine w_aln rfl ?_
    refine w_gi hL.gm rfl (by decide) rfl (hC36.2.2.2.1.1) ?_
    refine w_bp ?_
    refine w_cmne (fun c37 => ?_) (fun c37 => ?_)
    · skip
      refine w_aln rfl ?_
      refine w_aln rfl ?_
      refine w_gi hL.gm rfl (by decide) rfl (hC36.2.2.2.1.1) ?_
      refine w_aln rfl ?_
      refine w_gi hL.gm rfl (by decide) rfl (hC36.2.2.2.1.2.1) ?_
      refine w_ifge (fun c38 => ?_) (fun c38 => ?_)
      · skip
        refine w_il rfl ?_
        refine w_ic ?_
        refine w_add ⟨by show (-2147483648 : Int) ≤ ((H (76 + mi.toNat)) + x) + 1; omega, by show ((H (76 + mi.toNat)) + x) + 1 < (2147483648 : Int); omega⟩ ?_
        refine w_ic ?_
        refine w_div (by decide) ?_
        intro z39 hz39 ez39
        obtain rfl : z39 = ((((H (76 + mi.toNat)) + x) + 1) / 2) := ye_half (by omega) (by omega) ez39
        refine w_cv (st := []) rfl hL.gm rfl (Nat.le_of_ble_eq_true rfl) (fun kk h => h) (r_X12_comes (d := d + 1) hL hC36 (by show 0 ≤ L ∧ L ≤ 7; omega) (by show 0 ≤ ((((H (76 + mi.toNat)) + x) + 1) / 2) ∧ ((((H (76 + mi.toNat)) + x) + 1) / 2) ≤ 2000; omega) hT (((hR0 _ (by show L.toNat < 8; omega)).1).imp (fun q => by omega) (fun q => by omega)) (((hR0 _ (by show L.toNat < 8; omega)).2).imp (fun q => by omega) (fun q => by omega)) (by rw [show (rv_up (rv_up (rv_up (rv_up (rv_up g 224 ((g 224) + (P - (ye_co H g A B mi.toNat L O)))) 231 ((g 231) + (ye_co H g A B mi.toNat L O))) 225 ((g 225) - (ye_wy H g L))) 223 L) 226 ((g 226) + ((H (76 + mi.toNat)) + x))) 228 = g 228 from (rv_up_n (by decide)).trans ((rv_up_n (by decide)).trans ((rv_up_n (by decide)).trans ((rv_up_n (by decide)).trans ((rv_up_n (by decide))))))]; omega) (by rw [show (rv_up (rv_up (rv_up (rv_up (rv_up g 224 ((g 224) + (P - (ye_co H g A B mi.toNat L O)))) 231 ((g 231) + (ye_co H g A B mi.toNat L O))) 225 ((g 225) - (ye_wy H g L))) 223 L) 226 ((g 226) + ((H (76 + mi.toNat)) + x))) 229 = g 229 from (rv_up_n (by decide)).trans ((rv_up_n (by decide)).trans ((rv_up_n (by decide)).trans ((rv_up_n (by decide)).trans ((rv_up_n (by decide))))))]; omega) (fun M40 hC41 => ?_))
        have g342 : (ye_c1 H R (rv_up (rv_up (rv_up (rv_up (rv_up g 224 ((g 224) + (P - (ye_co H g A B mi.toNat L O)))) 231 ((g 231) + (ye_co H g A B mi.toNat L O))) 225 ((g 225) - (ye_wy H g L))) 223 L) 226 ((g 226) + ((H (76 + mi.toNat)) + x))) L ((((H (76 + mi.toNat)) + x) + 1) / 2)) 230 = g 230 := rfl
        refine w_aln rfl ?_
        refine w_gi hL.gm rfl (by decide) rfl (hC41.2.2.2.1.2.1) ?_
        refine w_iflt (fun c43 => ?_) (fun c43 => ?_)
        · exfalso; omega
        · skip
          refine w_aln rfl ?_
          refine w_aln rfl ?_
          refine w_gi hL.gm rfl (by decide) rfl (hC41.2.2.2.1.2.1) ?_
          refine w_il rfl ?_
          refine w_ic ?_
          refine w_div (by decide) ?_
          intro z44 hz44 ez44
          obtain rfl : z44 = (((H (76 + mi.toNat)) + x) / 2) := ye_half (by omega) (by omega) ez44
          have hi1 := hin R L ((((H (76 + mi.toNat)) + x) + 1) / 2) (by omega) (by omega) (by omega) (by omega) (hR0 _ (by omega)).1.1 (hR0 _ (by omega)).1.2
          refine w_cv (st := []) rfl hL.gm rfl (Nat.le_of_ble_eq_true rfl) (fun kk h => h) (r_X12_comes (d := d + 1) hL hC41 (by show 0 ≤ O ∧ O ≤ 7; omega) (by show 0 ≤ (((H (76 + mi.toNat)) + x) / 2) ∧ (((H (76 + mi.toNat)) + x) / 2) ≤ 2000; omega) hT (by rw [show (ye_cR H R L ((((H (76 + mi.toNat)) + x) + 1) / 2)) = ye_ru R L.toNat _ from rfl, ye_ru_n (show O.toNat ≠ L.toNat by omega)]; have q := hR0 O.toNat (by omega); omega) (by rw [show (ye_cR H R L ((((H (76 + mi.toNat)) + x) + 1) / 2)) = ye_ru R L.toNat _ from rfl, ye_ru_n (show O.toNat ≠ L.toNat by omega)]; have q := hR0 O.toNat (by omega); omega) (by rw [show (ye_c1 H R (rv_up (rv_up (rv_up (rv_up (rv_up g 224 ((g 224) + (P - (ye_co H g A B mi.toNat L O)))) 231 ((g 231) + (ye_co H g A B mi.toNat L O))) 225 ((g 225) - (ye_wy H g L))) 223 L) 226 ((g 226) + ((H (76 + mi.toNat)) + x))) L ((((H (76 + mi.toNat)) + x) + 1) / 2)) 228 = g 228 + ye_se H L ((((H (76 + mi.toNat)) + x) + 1) / 2) from rfl]; omega) (by rw [show (ye_c1 H R (rv_up (rv_up (rv_up (rv_up (rv_up g 224 ((g 224) + (P - (ye_co H g A B mi.toNat L O)))) 231 ((g 231) + (ye_co H g A B mi.toNat L O))) 225 ((g 225) - (ye_wy H g L))) 223 L) 226 ((g 226) + ((H (76 + mi.toNat)) + x))) L ((((H (76 + mi.toNat)) + x) + 1) / 2)) 229 = g 229 + (((((H (76 + mi.toNat)) + x) + 1) / 2) - ye_se H L ((((H (76 + mi.toNat)) + x) + 1) / 2) - ye_in H R L ((((H (76 + mi.toNat)) + x) + 1) / 2)) from rfl]; omega) (fun M45 hC46 => ?_))
          have g347 : (ye_c1 H (ye_cR H R L ((((H (76 + mi.toNat)) + x) + 1) / 2)) (ye_c1 H R (rv_up (rv_up (rv_up (rv_up (rv_up g 224 ((g 224) + (P - (ye_co H g A B mi.toNat L O)))) 231 ((g 231) + (ye_co H g A B mi.toNat L O))) 225 ((g 225) - (ye_wy H g L))) 223 L) 226 ((g 226) + ((H (76 + mi.toNat)) + x))) L ((((H (76 + mi.toNat)) + x) + 1) / 2)) O (((H (76 + mi.toNat)) + x) / 2)) 230 = g 230 := rfl
          refine w_aln rfl ?_
          refine w_gr hL.gm rfl (by decide) rfl (hC46.vr hL.m6) ?_
          refine w_sp ?_
          refine w_dup2 ?_
          refine w_iald (v := ((ye_c1 H (ye_cR H R L ((((H (76 + mi.toNat)) + x) + 1) / 2)) (ye_c1 H R (rv_up (rv_up (rv_up (rv_up (rv_up g 224 ((g 224) + (P - (ye_co H g A B mi.toNat L O)))) 231 ((g 231) + (ye_co H g A B mi.toNat L O))) 225 ((g 225) - (ye_wy H g L))) 223 L) 226 ((g 226) + ((H (76 + mi.toNat)) + x))) L ((((H (76 + mi.toNat)) + x) + 1) / 2)) O (((H (76 + mi.toNat)) + x) / 2)) 230)) hL.gs rfl (by show (0 : Int) ≤ 230; omega) (by show 230 < ((537 : Nat) : Int); omega) (hC46.vg (k := 230) (by decide) (by decide)) ?_
          refine w_ic ?_
          refine w_add ⟨by show (-2147483648 : Int) ≤ ((ye_c1 H (ye_cR H R L ((((H (76 + mi.toNat)) + x) + 1) / 2)) (ye_c1 H R (rv_up (rv_up (rv_up (rv_up (rv_up g 224 ((g 224) + (P - (ye_co H g A B mi.toNat L O)))) 231 ((g 231) + (ye_co H g A B mi.toNat L O))) 225 ((g 225) - (ye_wy H g L))) 223 L) 226 ((g 226) + ((H (76 + mi.toNat)) + x))) L ((((H (76 + mi.toNat)) + x) + 1) / 2)) O (((H (76 + mi.toNat)) + x) / 2)) 230) + 1; omega, by show ((ye_c1 H (ye_cR H R L ((((H (76 + mi.toNat)) + x) + 1) / 2)) (ye_c1 H R (rv_up (rv_up (rv_up (rv_up (rv_up g 224 ((g 224) + (P - (ye_co H g A B mi.toNat L O)))) 231 ((g 231) + (ye_co H g A B mi.toNat L O))) 225 ((g 225) - (ye_wy H g L))) 223 L) 226 ((g 226) + ((H (76 + mi.toNat)) + x))) L ((((H (76 + mi.toNat)) + x) + 1) / 2)) O (((H (76 + mi.toNat)) + x) / 2)) 230) + 1 < (2147483648 : Int); omega⟩ ?_
          refine w_iast hL.gs rfl (by decide) (by show (0 : Int) ≤ 230; omega) (by show 230 < ((537 : Nat) : Int); omega) ?_
          have hC48 := hC46.pg (k := 230) (v := ((ye_c1 H (ye_cR H R L ((((H (76 + mi.toNat)) + x) + 1) / 2)) (ye_c1 H R (rv_up (rv_up (rv_up (rv_up (rv_up g 224 ((g 224) + (P - (ye_co H g A B mi.toNat L O)))) 231 ((g 231) + (ye_co H g A B mi.toNat L O))) 225 ((g 225) - (ye_wy H g L))) 223 L) 226 ((g 226) + ((H (76 + mi.toNat)) + x))) L ((((H (76 + mi.toNat)) + x) + 1) / 2)) O (((H (76 + mi.toNat)) + x) / 2)) 230) + 1) hL (by decide) (by decide) (by show (230 : Int).toNat = 230; omega)
          refine w_aln rfl ?_
          refine w_gr hL.gm rfl (by decide) rfl (hC48.vr hL.m6) ?_
          refine w_sp ?_
          refine w_ic ?_
          refine w_iln rfl ?_
          refine w_mul ⟨by show (-2147483648 : Int) ≤ 3 * mi; omega, by show 3 * mi < (2147483648 : Int); omega⟩ ?_
          refine w_add ⟨by show (-2147483648 : Int) ≤ 320 + (3 * mi); omega, by show 320 + (3 * mi) < (2147483648 : Int); omega⟩ ?_
          refine w_aln rfl ?_
          refine w_gi hL.gm rfl (by decide) rfl (hC48.2.2.2.1.1) ?_
          refine w_iast hL.gs rfl (by decide) (by show (0 : Int) ≤ 320 + (3 * mi); omega) (by show 320 + (3 * mi) < ((537 : Nat) : Int); omega) ?_
          have hC49 := hC48.pA (k := mi.toNat) (v := L) hL (by show (320 + (3 * mi)).toNat = 320 + 3 * mi.toNat; omega) (by show mi.toNat < 12; omega)
          refine w_aln rfl ?_
          refine w_gr hL.gm rfl (by decide) rfl (hC49.vr hL.m6) ?_
          refine w_sp ?_
          refine w_ic ?_
          refine w_iln rfl ?_
          refine w_mul ⟨by show (-2147483648 : Int) ≤ 3 * mi; omega, by show 3 * mi < (2147483648 : Int); omega⟩ ?_
          refine w_add ⟨by show (-2147483648 : Int) ≤ 320 + (3 * mi); omega, by show 320 + (3 * mi) < (2147483648 : Int); omega⟩ ?_
          refine w_ic ?_
          refine w_add ⟨by show (-2147483648 : Int) ≤ (320 + (3 * mi)) + 1; omega, by show (320 + (3 * mi)) + 1 < (2147483648 : Int); omega⟩ ?_
          refine w_aln rfl ?_
          refine w_gi hL.gm rfl (by decide) rfl (hC49.2.2.2.1.2.1) ?_
          refine w_iast hL.gs rfl (by decide) (by show (0 : Int) ≤ (320 + (3 * mi)) + 1; omega) (by show (320 + (3 * mi)) + 1 < ((537 : Nat) : Int); omega) ?_
          have hC50 := hC49.pB (k := mi.toNat) (v := O) hL (by show ((320 + (3 * mi)) + 1).toNat = 321 + 3 * mi.toNat; omega) (by show mi.toNat < 12; omega)
          refine w_aln rfl ?_
          refine w_gr hL.gm rfl (by decide) rfl (hC50.vr hL.m6) ?_
          refine w_sp ?_
          refine w_ic ?_
          refine w_iln rfl ?_
          refine w_mul ⟨by show (-2147483648 : Int) ≤ 3 * mi; omega, by show 3 * mi < (2147483648 : Int); omega⟩ ?_
          refine w_add ⟨by show (-2147483648 : Int) ≤ 320 + (3 * mi); omega, by show 320 + (3 * mi) < (2147483648 : Int); omega⟩ ?_
          refine w_ic ?_
          refine w_add ⟨by show (-2147483648 : Int) ≤ (320 + (3 * mi)) + 2; omega, by show (320 + (3 * mi)) + 2 < (2147483648 : Int); omega⟩ ?_
          refine w_aln rfl ?_
          refine w_gi hL.gm rfl (by decide) rfl (hC50.2.2.2.1.2.2) ?_
          refine w_iast hL.gs rfl (by decide) (by show (0 : Int) ≤ (320 + (3 * mi)) + 2; omega) (by show (320 + (3 * mi)) + 2 < ((537 : Nat) : Int); omega) ?_
          have hC51 := hC50.pC (k := mi.toNat) (v := P) hL (by show ((320 + (3 * mi)) + 2).toNat = 322 + 3 * mi.toNat; omega) (by show mi.toNat < 12; omega)
          refine w_ic ?_
          refine w_is ?_
          show wz _ _ _ _ [some (.inr (.inr (some m))), some (.inl x), some (.inl mi), some (.inl (ye_wy H g L)), some (.inl (ye_co H g A B mi.toNat L O)), some (.inl ((H (76 + mi.toNat)) + x)), some (.inl 0)] _ _ _ _ _
          refine h _ (yq_S.cg hC51 ?_ ?_)
          · unfold ye_g2; rw [if_neg (by omega), if_neg (by omega)]
            rw [show (H (76 + mi.toNat) + x) - (H (76 + mi.toNat) + x) / 2 = ((((H (76 + mi.toNat)) + x) + 1) / 2) by omega]
            refine ye_10 rfl rfl ?_ ?_ rfl rfl rfl rfl rfl rfl
            · exact (show g 224 + (P - ye_co H g A B mi.toNat L O) = g 224 + P - ye_co H g A B mi.toNat L O by omega)
            · exact (show (g 225) - (ye_wy H g L) = (if g 225 - ye_wy H g L < 0 then 0 else g 225 - ye_wy H g L) by split <;> omega)
          · unfold ye_R2; rw [if_neg (by omega), if_neg (by omega), show (H (76 + mi.toNat) + x) - (H (76 + mi.toNat) + x) / 2 = ((((H (76 + mi.toNat)) + x) + 1) / 2) by omega]; exact fun _ _ _ _ => rfl
          
      · skip
        refine w_il rfl ?_
        refine w_goto ?_
        refine w_cv (st := []) rfl hL.gm rfl (Nat.le_of_ble_eq_true rfl) (fun kk h => h) (r_X12_comes (d := d + 1) hL hC36 (by show 0 ≤ L ∧ L ≤ 7; omega) (by show 0 ≤ (H (76 + mi.toNat)) + x ∧ (H (76 + mi.toNat)) + x ≤ 2000; omega) hT (((hR0 _ (by show L.toNat < 8; omega)).1).imp (fun q => by omega) (fun q => by omega)) (((hR0 _ (by show L.toNat < 8; omega)).2).imp (fun q => by omega) (fun q => by omega)) (by rw [show (rv_up (rv_up (rv_up (rv_up (rv_up g 224 ((g 224) + (P - (ye_co H g A B mi.toNat L O)))) 231 ((g 231) + (ye_co H g A B mi.toNat L O))) 225 ((g 225) - (ye_wy H g L))) 223 L) 226 ((g 226) + ((H (76 + mi.toNat)) + x))) 228 = g 228 from (rv_up_n (by decide)).trans ((rv_up_n (by decide)).trans ((rv_up_n (by decide)).trans ((rv_up_n (by decide)).trans ((rv_up_n (by decide))))))]; omega) (by rw [show (rv_up (rv_up (rv_up (rv_up (rv_up g 224 ((g 224) + (P - (ye_co H g A B mi.toNat L O)))) 231 ((g 231) + (ye_co H g A B mi.toNat L O))) 225 ((g 225) - (ye_wy H g L))) 223 L) 226 ((g 226) + ((H (76 + mi.toNat)) + x))) 229 = g 229 from (rv_up_n (by decide)).trans ((rv_up_n (by decide)).trans ((rv_up_n (by decide)).trans ((rv_up_n (by decide)).trans ((rv_up_n (by decide))))))]; omega) (fun M52 hC53 => ?_))
        have g354 : (ye_c1 H R (rv_up (rv_up (rv_up (rv_up (rv_up g 224 ((g 224) + (P - (ye_co H g A B mi.toNat L O)))) 231 ((g 231) + (ye_co H g A B mi.toNat L O))) 225 ((g 225) - (ye_wy H g L))) 223 L) 226 ((g 226) + ((H (76 + mi.toNat)) + x))) L ((H (76 + mi.toNat)) + x)) 230 = g 230 := rfl
        refine w_aln rfl ?_
        refine w_gi hL.gm rfl (by decide) rfl (hC53.2.2.2.1.2.1) ?_
        refine w_iflt (fun c55 => ?_) (fun c55 => ?_)
        · skip
          refine w_aln rfl ?_
          refine w_gr hL.gm rfl (by decide) rfl (hC53.vr hL.m6) ?_
          refine w_sp ?_
          refine w_dup2 ?_
          refine w_iald (v := ((ye_c1 H R (rv_up (rv_up (rv_up (rv_up (rv_up g 224 ((g 224) + (P - (ye_co H g A B mi.toNat L O)))) 231 ((g 231) + (ye_co H g A B mi.toNat L O))) 225 ((g 225) - (ye_wy H g L))) 223 L) 226 ((g 226) + ((H (76 + mi.toNat)) + x))) L ((H (76 + mi.toNat)) + x)) 230)) hL.gs rfl (by show (0 : Int) ≤ 230; omega) (by show 230 < ((537 : Nat) : Int); omega) (hC53.vg (k := 230) (by decide) (by decide)) ?_
          refine w_ic ?_
          refine w_add ⟨by show (-2147483648 : Int) ≤ ((ye_c1 H R (rv_up (rv_up (rv_up (rv_up (rv_up g 224 ((g 224) + (P - (ye_co H g A B mi.toNat L O)))) 231 ((g 231) + (ye_co H g A B mi.toNat L O))) 225 ((g 225) - (ye_wy H g L))) 223 L) 226 ((g 226) + ((H (76 + mi.toNat)) + x))) L ((H (76 + mi.toNat)) + x)) 230) + 1; omega, by show ((ye_c1 H R (rv_up (rv_up (rv_up (rv_up (rv_up g 224 ((g 224) + (P - (ye_co H g A B mi.toNat L O)))) 231 ((g 231) + (ye_co H g A B mi.toNat L O))) 225 ((g 225) - (ye_wy H g L))) 223 L) 226 ((g 226) + ((H (76 + mi.toNat)) + x))) L ((H (76 + mi.toNat)) + x)) 230) + 1 < (2147483648 : Int); omega⟩ ?_
          refine w_iast hL.gs rfl (by decide) (by show (0 : Int) ≤ 230; omega) (by show 230 < ((537 : Nat) : Int); omega) ?_
          have hC56 := hC53.pg (k := 230) (v := ((ye_c1 H R (rv_up (rv_up (rv_up (rv_up (rv_up g 224 ((g 224) + (P - (ye_co H g A B mi.toNat L O)))) 231 ((g 231) + (ye_co H g A B mi.toNat L O))) 225 ((g 225) - (ye_wy H g L))) 223 L) 226 ((g 226) + ((H (76 + mi.toNat)) + x))) L ((H (76 + mi.toNat)) + x)) 230) + 1) hL (by decide) (by decide) (by show (230 : Int).toNat = 230; omega)
          refine w_aln rfl ?_
          refine w_gr hL.gm rfl (by decide) rfl (hC56.vr hL.m6) ?_
          refine w_sp ?_
          refine w_ic ?_
          refine w_iln rfl ?_
          refine w_mul ⟨by show (-2147483648 : Int) ≤ 3 * mi; omega, by show 3 * mi < (2147483648 : Int); omega⟩ ?_
          refine w_add ⟨by show (-2147483648 : Int) ≤ 320 + (3 * mi); omega, by show 320 + (3 * mi) < (2147483648 : Int); omega⟩ ?_
          refine w_aln rfl ?_
          refine w_gi hL.gm rfl (by decide) rfl (hC56.2.2.2.1.1) ?_
          refine w_iast hL.gs rfl (by decide) (by show (0 : Int) ≤ 320 + (3 * mi); omega) (by show 320 + (3 * mi) < ((537 : Nat) : Int); omega) ?_
          have hC57 := hC56.pA (k := mi.toNat) (v := L) hL (by show (320 + (3 * mi)).toNat = 320 + 3 * mi.toNat; omega) (by show mi.toNat < 12; omega)
          refine w_aln rfl ?_
          refine w_gr hL.gm rfl (by decide) rfl (hC57.vr hL.m6) ?_
          refine w_sp ?_
          refine w_ic ?_
          refine w_iln rfl ?_
          refine w_mul ⟨by show (-2147483648 : Int) ≤ 3 * mi; omega, by show 3 * mi < (2147483648 : Int); omega⟩ ?_
          refine w_add ⟨by show (-2147483648 : Int) ≤ 320 + (3 * mi); omega, by show 320 + (3 * mi) < (2147483648 : Int); omega⟩ ?_
          refine w_ic ?_
          refine w_add ⟨by show (-2147483648 : Int) ≤ (320 + (3 * mi)) + 1; omega, by show (320 + (3 * mi)) + 1 < (2147483648 : Int); omega⟩ ?_
          refine w_aln rfl ?_
          refine w_gi hL.gm rfl (by decide) rfl (hC57.2.2.2.1.2.1) ?_
          refine w_iast hL.gs rfl (by decide) (by show (0 : Int) ≤ (320 + (3 * mi)) + 1; omega) (by show (320 + (3 * mi)) + 1 < ((537 : Nat) : Int); omega) ?_
          have hC58 := hC57.pB (k := mi.toNat) (v := O) hL (by show ((320 + (3 * mi)) + 1).toNat = 321 + 3 * mi.toNat; omega) (by show mi.toNat < 12; omega)
          refine w_aln rfl ?_
          refine w_gr hL.gm rfl (by decide) rfl (hC58.vr hL.m6) ?_
          refine w_sp ?_
          refine w_ic ?_
          refine w_iln rfl ?_
          refine w_mul ⟨by show (-2147483648 : Int) ≤ 3 * mi; omega, by show 3 * mi < (2147483648 : Int); omega⟩ ?_
          refine w_add ⟨by show (-2147483648 : Int) ≤ 320 + (3 * mi); omega, by show 320 + (3 * mi) < (2147483648 : Int); omega⟩ ?_
          refine w_ic ?_
          refine w_add ⟨by show (-2147483648 : Int) ≤ (320 + (3 * mi)) + 2; omega, by show (320 + (3 * mi)) + 2 < (2147483648 : Int); omega⟩ ?_
          refine w_aln rfl ?_
          refine w_gi hL.gm rfl (by decide) rfl (hC58.2.2.2.1.2.2) ?_
          refine w_iast hL.gs rfl (by decide) (by show (0 : Int) ≤ (320 + (3 * mi)) + 2; omega) (by show (320 + (3 * mi)) + 2 < ((537 : Nat) : Int); omega) ?_
          have hC59 := hC58.pC (k := mi.toNat) (v := P) hL (by show ((320 + (3 * mi)) + 2).toNat = 322 + 3 * mi.toNat; omega) (by show mi.toNat < 12; omega)
          refine w_ic ?_
          refine w_is ?_
          show wz _ _ _ _ [some (.inr (.inr (some m))), some (.inl x), some (.inl mi), some (.inl (ye_wy H g L)), some (.inl (ye_co H g A B mi.toNat L O)), some (.inl ((H (76 + mi.toNat)) + x)), some (.inl 0)] _ _ _ _ _
          refine h _ (yq_S.cg hC59 ?_ ?_)
          · unfold ye_g2; rw [if_neg (by omega), if_pos (by omega)]
            refine ye_10 rfl rfl ?_ ?_ rfl rfl rfl rfl rfl rfl
            · exact (show g 224 + (P - ye_co H g A B mi.toNat L O) = g 224 + P - ye_co H g A B mi.toNat L O by omega)
            · exact (show (g 225) - (ye_wy H g L) = (if g 225 - ye_wy H g L < 0 then 0 else g 225 - ye_wy H g L) by split <;> omega)
          · unfold ye_R2; rw [if_neg (by omega), if_pos (by omega)]; exact fun _ _ _ _ => rfl
          
        · exfalso; omega
    · skip
      refine w_aln rfl ?_
      refine w_gr hL.gm rfl (by decide) rfl (hC36.vr hL.m6) ?_
      refine w_sp ?_
      refine w_dup2 ?_
      refine w_iald (v := (g 229)) hL.gs rfl (by show (0 : Int) ≤ 229; omega) (by show 229 < ((537 : Nat) : Int); omega) ((hC36.vg (k := 229) (by decide) (by decide)).trans ((rv_up_n (by decide)).trans ((rv_up_n (by decide)).trans ((rv_up_n (by decide)).trans ((rv_up_n (by decide)).trans ((rv_up_n (by decide)))))))) ?_
      refine w_il rfl ?_
      refine w_add ⟨by show (-2147483648 : Int) ≤ (g 229) + ((H (76 + mi.toNat)) + x); omega, by show (g 229) + ((H (76 + mi.toNat)) + x) < (2147483648 : Int); omega⟩ ?_
      refine w_iast hL.gs rfl (by decide) (by show (0 : Int) ≤ 229; omega) (by show 229 < ((537 : Nat) : Int); omega) ?_
      have hC60 := hC36.pg (k := 229) (v := (g 229) + ((H (76 + mi.toNat)) + x)) hL (by decide) (by decide) (by show (229 : Int).toNat = 229; omega)
      refine w_goto ?_
      refine w_aln rfl ?_
      refine w_gr hL.gm rfl (by decide) rfl (hC60.vr hL.m6) ?_
      refine w_sp ?_
      refine w_ic ?_
      refine w_iln rfl ?_
      refine w_mul ⟨by show (-2147483648 : Int) ≤ 3 * mi; omega, by show 3 * mi < (2147483648 : Int); omega⟩ ?_
      refine w_add ⟨by show (-2147483648 : Int) ≤ 320 + (3 * mi); omega, by show 320 + (3 * mi) < (2147483648 : Int); omega⟩ ?_
      refine w_aln rfl ?_
      refine w_gi hL.gm rfl (by decide) rfl (hC60.2.2.2.1.1) ?_
      refine w_iast hL.gs rfl (by decide) (by show (0 : Int) ≤ 320 + (3 * mi); omega) (by show 320 + (3 * mi) < ((537 : Nat) : Int); omega) ?_
      have hC61 := hC60.pA (k := mi.toNat) (v := L) hL (by show (320 + (3 * mi)).toNat = 320 + 3 * mi.toNat; omega) (by show mi.toNat < 12; omega)
      refine w_aln rfl ?_
      refine w_gr hL.gm rfl (by decide) rfl (hC61.vr hL.m6) ?_
      refine w_sp ?_
      refine w_ic ?_
      refine w_iln rfl ?_
      refine w_mul ⟨by show (-2147483648 : Int) ≤ 3 * mi; omega, by show 3 * mi < (2147483648 : Int); omega⟩ ?_
      refine w_add ⟨by show (-2147483648 : Int) ≤ 320 + (3 * mi); omega, by show 320 + (3 * mi) < (2147483648 : Int); omega⟩ ?_
      refine w_ic ?_
      refine w_add ⟨by show (-2147483648 : Int) ≤ (320 + (3 * mi)) + 1; omega, by show (320 + (3 * mi)) + 1 < (2147483648 : Int); omega⟩ ?_
      refine w_aln rfl ?_
      refine w_gi hL.gm rfl (by decide) rfl (hC61.2.2.2.1.2.1) ?_
      refine w_iast hL.gs rfl (by decide) (by show (0 : Int) ≤ (320 + (3 * mi)) + 1; omega) (by show (320 + (3 * mi)) + 1 < ((537 : Nat) : Int); omega) ?_
      have hC62 := hC61.pB (k := mi.toNat) (v := O) hL (by show ((320 + (3 * mi)) + 1).toNat = 321 + 3 * mi.toNat; omega) (by show mi.toNat < 12; omega)
      refine w_aln rfl ?_
      refine w_gr hL.gm rfl (by decide) rfl (hC62.vr hL.m6) ?_
      refine w_sp ?_
      refine w_ic ?_
      refine w_iln rfl ?_
      refine w_mul ⟨by show (-2147483648 : Int) ≤ 3 * mi; omega, by show 3 * mi < (2147483648 : Int); omega⟩ ?_
      refine w_add ⟨by show (-2147483648 : Int) ≤ 320 + (3 * mi); omega, by show 320 + (3 * mi) < (2147483648 : Int); omega⟩ ?_
      refine w_ic ?_
      refine w_add ⟨by show (-2147483648 : Int) ≤ (320 + (3 * mi)) + 2; omega, by show (320 + (3 * mi)) + 2 < (2147483648 : Int); omega⟩ ?_
      refine w_aln rfl ?_
      refine w_gi hL.gm rfl (by decide) rfl (hC62.2.2.2.1.2.2) ?_
      refine w_iast hL.gs rfl (by decide) (by show (0 : Int) ≤ (320 + (3 * mi)) + 2; omega) (by show (320 + (3 * mi)) + 2 < ((537 : Nat) : Int); omega) ?_
      have hC63 := hC62.pC (k := mi.toNat) (v := P) hL (by show ((320 + (3 * mi)) + 2).toNat = 322 + 3 * mi.toNat; omega) (by show mi.toNat < 12; omega)
      refine w_ic ?_
      refine w_is ?_
      show wz _ _ _ _ [some (.inr (.inr (some m))), some (.inl x), some (.inl mi), some (.inl (ye_wy H g L)), some (.inl (ye_co H g A B mi.toNat L O)), some (.inl ((H (76 + mi.toNat)) + x)), some (.inl 0)] _ _ _ _ _
      refine h _ (yq_S.cg hC63 ?_ ?_)
      · unfold ye_g2; rw [if_pos (by omega)]
        refine ye_10 rfl rfl ?_ ?_ rfl rfl rfl rfl rfl rfl
        · exact (show g 224 + (P - ye_co H g A B mi.toNat L O) = g 224 + P - ye_co H g A B mi.toNat L O by omega)
        · exact (show (g 225) - (ye_wy H g L) = (if g 225 - ye_wy H g L < 0 then 0 else g 225 - ye_wy H g L) by split <;> omega)
      · unfold ye_R2; rw [if_pos (by omega)]; exact fun _ _ _ _ => rfl
      
theorem r_moR21 {G : mj_G} {M M0 : mj_M} {s m : Nat} {H : Nat → Int} {g A B C : Nat → Int} {R : Nat → Nat → Int} {L O P : Int} {Q : mj_P} {d : Nat} {y4 y5 y6 : Option mj_V} {x mi : Int} (hL : yq_L G M0 s m H) (hC : yq_S s m M0 g A B C R L O P M) {cb sb : Nat} (hH : ye_H H) (hx : 0 ≤ x ∧ x ≤ 99) (hm : g 222 = mi) (m0 : 0 ≤ mi ∧ mi ≤ 11) (lo : (L = 8 ∧ O = -1 ∧ P = 0) ∨ ((0 ≤ L ∧ L < H 0) ∧ (0 ≤ P ∧ P ≤ 999) ∧ (O = -1 ∨ ((0 ≤ O ∧ O < H 0) ∧ O ≠ L)))) (hr1 : ∀ t : Nat, t < 8 → ye_r1 H mi t ((t : Int) = L ∨ (t : Int) = O) (R t)) (k3 : g 223 = 8 ∨ (0 ≤ g 223 ∧ g 223 < H 0)) (b224 : -1000000 ≤ g 224 ∧ g 224 ≤ 1000000) (b226 : -1000000 ≤ g 226 ∧ g 226 ≤ 1000000) (b228 : -1000000 ≤ g 228 ∧ g 228 ≤ 1000000) (b229 : -1000000 ≤ g 229 ∧ g 229 ≤ 1000000) (b230 : -1000000 ≤ g 230 ∧ g 230 ≤ 1000000) (b231 : -1000000 ≤ g 231 ∧ g 231 ≤ 1000000) (b227 : -1000000 ≤ g 227 ∧ g 227 ≤ 1000000) (b225 : 0 ≤ g 225 ∧ g 225 ≤ 999) (s229 : 0 ≤ g 229 ∧ g 229 ≤ 500000) (h : ∀ M, (mi < 11 → yq_S s m M0 (rv_up (ye_g3 H (ye_ml H L O (ye_R2 H R L O (H (76 + mi.toNat) + x))) (ye_g2 H R (rv_up (ye_g1 H g A B mi.toNat L O P) 226 ((ye_g1 H g A B mi.toNat L O P) 226 + (H (76 + mi.toNat) + x))) L O (H (76 + mi.toNat) + x)) (H 0).toNat) 222 (mi + 1)) (rv_up A mi.toNat L) (rv_up B mi.toNat O) (rv_up C mi.toNat P) (ye_R3 H (ye_ml H L O (ye_R2 H R L O (H (76 + mi.toNat) + x))) (H 0).toNat) L O P M) → (mi = 11 → yq_S s m M0 (rv_up (ye_g3 H (ye_ml H L O (ye_R2 H R L O (H (76 + mi.toNat) + x))) (ye_g2 H R (rv_up (ye_g1 H g A B mi.toNat L O P) 226 ((ye_g1 H g A B mi.toNat L O P) 226 + (H (76 + mi.toNat) + x))) L O (H (76 + mi.toNat) + x)) (H 0).toNat) 222 (mi + 1)) (rv_up A mi.toNat L) (rv_up B mi.toNat O) (rv_up C mi.toNat P) (ye_R4 H (ye_R3 H (ye_ml H L O (ye_R2 H R L O (H (76 + mi.toNat) + x))) (H 0).toNat) (H 0).toNat) L O P M) → Q none G M) : wz (d + 3) mt_X12_month.2.2.2.2.1 Q (mt_X12_month.2.2.2.2.1.drop 21) [some (.inr (.inr (some m))), some (.inl x), some (.inl mi), some (.inl (ye_wy H g L)), y4, y5, y6] [] G M cb sb := by
  obtain ⟨h0, hm1, hm2, h3, hT, hw, hB, hd⟩ := id hH
  have hwm := hw mi.toNat (by omega)
  have hy : 0 ≤ ye_wy H g L ∧ ye_wy H g L ≤ 8 := by unfold ye_wy ye_pl; (repeat' split) <;> omega
  have bl := ye_br_b (A := A) (B := B) (m := mi.toNat) (k := L) hT (by omega)
  have bo := ye_br_b (A := A) (B := B) (m := mi.toNat) (k := O) hT (by omega)
  have hq := ye_mulb hm1.1 hm1.2 hy.1 hy.2
  have hc : 0 ≤ ye_co H g A B mi.toNat L O ∧ ye_co H g A B mi.toNat L O ≤ 5000 := by unfold ye_co; omega
  refine w_aln rfl ?_
  refine w_gr hL.gm rfl (by decide) rfl (hC.vr hL.m6) ?_
  refine w_ic ?_
  refine w_iald (v := (H 1)) hL.gs rfl (by show (0 : Int) ≤ 1; omega) (by show 1 < ((537 : Nat) : Int); omega) (hC.vn hL (by show (1 : Int).toNat = 1; omega) (by decide)) ?_
  refine w_iln rfl ?_
  refine w_mul ⟨by show (-2147483648 : Int) ≤ (H 1) * (ye_wy H g L); omega, by show (H 1) * (ye_wy H g L) < (2147483648 : Int); omega⟩ ?_
  refine w_is ?_
  show wz _ _ _ _ [some (.inr (.inr (some m))), some (.inl x), some (.inl mi), some (.inl (ye_wy H g L)), some (.inl ((H 1) * (ye_wy H g L))), y5, y6] _ _ _ _ _
  refine w_ic ?_
  refine w_is ?_
  show wz _ _ _ _ [some (.inr (.inr (some m))), some (.inl x), some (.inl mi), some (.inl (ye_wy H g L)), some (.inl ((H 1) * (ye_wy H g L))), some (.inl 0), y6] _ _ _ _ _
  refine r_brR (d := d) hL hC h0 hT hm m0 (by omega) (by omega) (by omega) (z := (H 1) * (ye_wy H g L)) rfl hq (H 0).toNat 0 _ _ _ (by omega) (by decide) (by unfold ye_cb; rw [if_neg (by omega), if_neg (by omega)]; omega) ?_
  refine r_moR3 (d := d) hL hC hT hm m0 hx hwm (by omega) (by omega) (by omega) (by omega) (by omega) b224 b226 b228 b229 b230 b231 b225 hy hc (fun t ht => ?_) (fun M4 hC4 => ?_)
  · have q := hr1 t ht
    have q5 := hT (5 + 9 * t) (by omega) (by omega)
    obtain ⟨a0, a1, a2, a3, a4, a5, a6, a7, a8, a9, a10⟩ := q
    exact ⟨by omega, by omega⟩
  have hr2 : ∀ t, t < 8 → ye_r2 H mi t ((ye_ml H L O (ye_R2 H R L O (H (76 + mi.toNat) + x))) t) := ye_ml_b hT h0 (by omega) (by omega) hr1
  have gg2 : ((ye_g2 H R (rv_up (ye_g1 H g A B mi.toNat L O P) 226 ((ye_g1 H g A B mi.toNat L O P) 226 + (H (76 + mi.toNat) + x))) L O (H (76 + mi.toNat) + x)) 227 = g 227 ∧ (-1000000 ≤ (ye_g2 H R (rv_up (ye_g1 H g A B mi.toNat L O P) 226 ((ye_g1 H g A B mi.toNat L O P) 226 + (H (76 + mi.toNat) + x))) L O (H (76 + mi.toNat) + x)) 229 ∧ (ye_g2 H R (rv_up (ye_g1 H g A B mi.toNat L O P) 226 ((ye_g1 H g A B mi.toNat L O P) 226 + (H (76 + mi.toNat) + x))) L O (H (76 + mi.toNat) + x)) 229 ≤ 1000000)) ∧ (ye_g2 H R (rv_up (ye_g1 H g A B mi.toNat L O P) 226 ((ye_g1 H g A B mi.toNat L O P) 226 + (H (76 + mi.toNat) + x))) L O (H (76 + mi.toNat) + x)) 222 = mi := by
    unfold ye_g2
    rcases lo with ⟨rfl, rfl, rfl⟩ | ⟨lo1, lo2, lo3⟩
    · rw [if_pos rfl]
      refine ⟨⟨rfl, ?_⟩, hm⟩
      rw [rv_up_s]
      rw [show rv_up (ye_g1 H g A B mi.toNat 8 (-1) 0) 226 (ye_g1 H g A B mi.toNat 8 (-1) 0 226 + (H (76 + mi.toNat) + x)) 229 = g 229 from rfl]
      omega
    · rw [if_neg (by omega)]
      have rl := hr1 L.toNat (by omega)
      rcases lo3 with lo3 | ⟨lo3, lo4⟩
      · rw [if_pos (by omega)]
        have b1 := ye_se_b (z := H (76 + mi.toNat) + x) hT lo1.1 (by omega) (by omega)
        have b2 := ye_in_b (R := R) (z := H (76 + mi.toNat) + x) hT lo1.1 (by omega) (by omega) rl.1.1 rl.1.2
        refine ⟨⟨rfl, ?_⟩, hm⟩
        unfold ye_c1
        rw [rv_up_s]
        rw [show ∀ a b : Int, rv_up (rv_up (ye_g1 H g A B mi.toNat L O P) 226 a) 230 b 229 = g 229 from fun _ _ => rfl]
        omega
      · rw [if_neg (by omega)]
        have ro := hr1 O.toNat (by omega)
        have e0 : ye_cR H R L ((H (76 + mi.toNat) + x) - (H (76 + mi.toNat) + x) / 2) O.toNat = R O.toNat := ye_ru_n (by omega)
        have b1 := ye_se_b (z := (H (76 + mi.toNat) + x) - (H (76 + mi.toNat) + x) / 2) hT lo1.1 (by omega) (by omega)
        have b2 := ye_in_b (R := R) (z := (H (76 + mi.toNat) + x) - (H (76 + mi.toNat) + x) / 2) hT lo1.1 (by omega) (by omega) rl.1.1 rl.1.2
        have b3 := ye_se_b (z := (H (76 + mi.toNat) + x) / 2) hT lo3.1 (by omega) (by omega)
        have b4 := ye_in_b (R := ye_cR H R L ((H (76 + mi.toNat) + x) - (H (76 + mi.toNat) + x) / 2)) (z := (H (76 + mi.toNat) + x) / 2) hT lo3.1 (by omega) (by omega) (by rw [e0]; exact ro.1.1) (by rw [e0]; exact ro.1.2)
        refine ⟨⟨rfl, ?_⟩, hm⟩
        unfold ye_c1
        rw [rv_up_s]
        rw [show ∀ a b c e : Int, rv_up (rv_up (rv_up (rv_up (ye_g1 H g A B mi.toNat L O P) 226 a) 230 b) 228 c) 229 e 229 = e from fun _ _ _ _ => rv_up_s]
        rw [show ∀ a b : Int, rv_up (rv_up (ye_g1 H g A B mi.toNat L O P) 226 a) 230 b 229 = g 229 from fun _ _ => rfl]
        omega
  refine r_usR (d := d) hL h0 hT h3 m0 (by omega) (by omega) hr2 (fun t ht => ?_) (by rw [gg2.1.1]; omega) gg2.1.2 (H 0).toNat 0 _ _ _ (by omega) (by decide) (hC4.cg ?_ ?_) (fun M5 hC5 => ?_)
  · have q14 : ye_R2 H R L O (H (76 + mi.toNat) + x) t 1 = R t 1 ∧ ye_R2 H R L O (H (76 + mi.toNat) + x) t 4 = R t 4 := by
      have pc : ∀ (R2 : Nat → Nat → Int) (k z2 : Int), ye_cR H R2 k z2 t 1 = R2 t 1 ∧ ye_cR H R2 k z2 t 4 = R2 t 4 := fun R2 k z2 => by
        unfold ye_cR
        by_cases e : t = k.toNat
        · subst e; rw [ye_ru_s]; exact ⟨rfl, rfl⟩
        · rw [ye_ru_n e]; exact ⟨rfl, rfl⟩
      unfold ye_R2
      by_cases c8 : L = 8
      · rw [if_pos c8]; exact ⟨rfl, rfl⟩
      · rw [if_neg c8]
        by_cases cO : O < 0
        · rw [if_pos cO]; exact pc _ _ _
        · rw [if_neg cO]; exact ⟨(pc _ _ _).1.trans (pc _ _ _).1, (pc _ _ _).2.trans (pc _ _ _).2⟩
    have q := hr1 t ht
    obtain ⟨a0, a1, a2, a3, a4, a5, a6, a7, a8, a9, a10⟩ := q
    rw [q14.1, q14.2]
    exact ⟨by omega, by omega⟩
  · exact ye_10 rfl rfl rfl rfl rfl ((Int.add_zero _).symm.trans rfl) rfl ((Int.add_zero _).symm.trans rfl) rfl rfl
  · rw [show (0 : Int).toNat = 0 from rfl, ye_Rq_0]; exact fun _ _ _ _ => rfl
  have hm7 : ye_g3 H (ye_ml H L O (ye_R2 H R L O (H (76 + mi.toNat) + x))) (ye_g2 H R (rv_up (ye_g1 H g A B mi.toNat L O P) 226 ((ye_g1 H g A B mi.toNat L O P) 226 + (H (76 + mi.toNat) + x))) L O (H (76 + mi.toNat) + x)) (H 0).toNat 222 = mi := gg2.2
  have hC6 := hC5.cg (fun _ _ _ => rfl) (ye_Rq_n (R := ye_R2 H R L O (H (76 + mi.toNat) + x)) h0 (by omega) (by omega))
  refine w_aln rfl ?_
  refine w_gr hL.gm rfl (by decide) rfl (hC6.vr hL.m6) ?_
  refine w_sp ?_
  refine w_dup2 ?_
  refine w_iald (v := mi) hL.gs rfl (by show (0 : Int) ≤ 222; omega) (by show 222 < ((537 : Nat) : Int); omega) ((hC6.vg (k := 222) (by decide) (by decide)).trans hm7) ?_
  refine w_ic ?_
  refine w_add ⟨by show (-2147483648 : Int) ≤ mi + 1; omega, by show mi + 1 < (2147483648 : Int); omega⟩ ?_
  refine w_iast hL.gs rfl (by decide) (by show (0 : Int) ≤ 222; omega) (by show 222 < ((537 : Nat) : Int); omega) ?_
  have hC1 := hC6.pg (k := 222) (v := mi + 1) hL (by decide) (by decide) (by show (222 : Int).toNat = 222; omega)
  refine w_aln rfl ?_
  refine w_gr hL.gm rfl (by decide) rfl (hC1.vr hL.m6) ?_
  refine w_sp ?_
  refine w_iald (v := mi + 1) hL.gs rfl (by show (0 : Int) ≤ 222; omega) (by show 222 < ((537 : Nat) : Int); omega) ((hC1.vg (k := 222) (by decide) (by decide)).trans (rv_up_s)) ?_
  refine w_bp ?_
  refine w_cmge (fun c2 => ?_) (fun c2 => ?_)
  · skip
    refine w_ic ?_
    refine w_is ?_
    show wz _ _ _ _ [some (.inr (.inr (some m))), some (.inl x), some (.inl mi), some (.inl (ye_wy H g L)), some (.inl (ye_co H g A B mi.toNat L O)), some (.inl (H (76 + mi.toNat) + x)), some (.inl 0)] _ _ _ _ _
    have hr3 : ∀ t, t < 8 → ye_r3 H mi t (ye_dk H t ((ye_ml H L O (ye_R2 H R L O (H (76 + mi.toNat) + x))) t)) := fun t ht => (ye_dk_b hT h3.1 ht (hr2 t ht)).1
    have hr4 : ∀ t, t < 8 → (0 ≤ ye_R3 H (ye_ml H L O (ye_R2 H R L O (H (76 + mi.toNat) + x))) (H 0).toNat t 8 ∧ ye_R3 H (ye_ml H L O (ye_R2 H R L O (H (76 + mi.toNat) + x))) (H 0).toNat t 8 ≤ 12) ∧ (0 ≤ ye_R3 H (ye_ml H L O (ye_R2 H R L O (H (76 + mi.toNat) + x))) (H 0).toNat t 9 ∧ ye_R3 H (ye_ml H L O (ye_R2 H R L O (H (76 + mi.toNat) + x))) (H 0).toNat t 9 ≤ 12000) ∧ (0 ≤ ye_R3 H (ye_ml H L O (ye_R2 H R L O (H (76 + mi.toNat) + x))) (H 0).toNat t 1 ∧ ye_R3 H (ye_ml H L O (ye_R2 H R L O (H (76 + mi.toNat) + x))) (H 0).toNat t 1 ≤ 1000000) := fun t ht => by
      unfold ye_R3
      by_cases c : t < (H 0).toNat
      · rw [if_pos c]
        obtain ⟨a0, a1, a2, a3, a4, a5, a6, a7, a8, a9, a10⟩ := hr3 t ht
        exact ⟨by omega, ⟨a9.1, a9.2.1⟩, by omega⟩
      · rw [if_neg c]
        obtain ⟨a0, a1, a2, a3, a4, a5, a6, a7, a8, a9, a10⟩ := hr2 t ht
        exact ⟨by omega, ⟨a9.1, a9.2.1⟩, by omega⟩
    exact r_hvR (d := d) hL h0 hT (fun t ht => (hr4 t ht).1) (fun t ht => (hr4 t ht).2.1) (fun t ht => (hr4 t ht).2.2) (H 0).toNat 0 _ _ _ (by omega) (by decide) (by rw [show (0 : Int).toNat = 0 from rfl, ye_R4_0]; exact hC1) (fun M9 hC9 => h _ (fun q => absurd q (by omega)) (fun _ => hC9))
  · skip
    exact w_ret (h _ (fun _ => hC1) (fun q => absurd q (by omega)))
theorem r_X12_month {G : mj_G} {M M0 : mj_M} {s m : Nat} {H : Nat → Int} {g A B C : Nat → Int} {R : Nat → Nat → Int} {L0 O0 P0 : Int} {Q : mj_P} {d : Nat} (hL : yq_L G M0 s m H) {mi x : Int} (hC : yq_S s m M0 g A B C R L0 O0 P0 M) (hm : g 222 = mi) (m0 : 0 ≤ mi ∧ mi ≤ 11) (hH : ye_H H) (hk : ye_ok H g A B C R) (hx : 0 ≤ x ∧ x ≤ 99) (h : ∀ L O P M, (L, O, P) = ye_le H R mi.toNat → yq_S s m M0 (ye_mg H x g R A B) (rv_up A mi.toNat L) (rv_up B mi.toNat O) (rv_up C mi.toNat P) (ye_mR H x g R) L O P M → Q none G M) : mj_R mj_tab (d + 4) 213 [.inr (.inr (some m)), .inl x] G M Q := by
  obtain ⟨h0, hm1, hm2, h3, hT, hw, hB, hd⟩ := id hH
  obtain ⟨k2, k3, k4, k5, k6, k7, k8, k9, k10, k11, kR, kz, kl⟩ := id hk
  rw [hm] at k4 k6 k7 k8 k9 k10 k11 kR
  have hlt := ye_le_b (R := R) hH (show mi.toNat < 12 by omega)
  revert hlt h
  rcases hle : ye_le H R mi.toNat with ⟨L, O, P⟩
  intro h hlt
  have ym := ye_mR_e (x := x) hm hle
  have yg := ye_mg_e (x := x) (A := A) (B := B) hm hle
  replace hlt : ye_lt H R L O P := hlt
  have hr1 := ye_R1_b kR h0 hlt
  have lo : (L = 8 ∧ O = -1 ∧ P = 0) ∨ ((0 ≤ L ∧ L < H 0) ∧ (0 ≤ P ∧ P ≤ 999) ∧ (O = -1 ∨ ((0 ≤ O ∧ O < H 0) ∧ O ≠ L))) := by
    rcases hlt with q | ⟨q1, q2, -, q3⟩
    · exact Or.inl q
    · exact Or.inr ⟨q1, q2, q3.imp (fun z => z.1) (fun z => ⟨z.1, z.2.1⟩)⟩
  have dj := hd mi.toNat (by omega)
  have hwm := hw mi.toNat (by omega)
  have hrb : ∀ t, t < 8 → (-1000000 ≤ R t 1 ∧ R t 1 ≤ 1000000) ∧ (-1000000 ≤ R t 5 ∧ R t 5 ≤ 1000000) := fun t ht => by
    obtain ⟨-, a1, -, -, -, a5, -⟩ := kR t ht
    omega
  have hbm : ∀ t, t < 8 → 0 ≤ H (88 + 12 * t + mi.toNat) ∧ H (88 + 12 * t + mi.toNat) ≤ 999 := fun t ht => hB t _ ht (by omega)
  refine ⟨Nat.le_of_ble_eq_true rfl, ?_⟩
  show wz (d + 3) mt_X12_month.2.2.2.2.1 _ mt_X12_month.2.2.2.2.1 [some (.inr (.inr (some m))), some (.inl x), none, none, none, none, none] [] G M _ _
  refine w_aln rfl ?_
  refine w_gr hL.gm rfl (by decide) rfl (hC.vr hL.m6) ?_
  refine w_sp ?_
  refine w_iald (v := mi) hL.gs rfl (by show (0 : Int) ≤ 222; omega) (by show 222 < ((537 : Nat) : Int); omega) ((hC.vg (k := 222) (by decide) (by decide)).trans hm) ?_
  refine w_isn ?_
  show wz _ _ _ _ [some (.inr (.inr (some m))), some (.inl x), some (.inl mi), none, none, none, none] _ _ _ _ _
  refine w_aln rfl ?_
  refine w_iln rfl ?_
  refine w_cv (st := []) rfl hL.gm rfl (Nat.le_of_ble_eq_true rfl) (fun kk h => h) (r_X12_lets (d := d) hL hC hm m0 (by omega) (by omega) (by omega) (fun q => by omega) h0 hbm hrb ?_)
  rw [hle]
  intro M1 hC1
  replace hC1 : yq_S s m M0 g A B C (ye_R1 R L O P) L O P M1 := hC1
  refine w_aln rfl ?_
  refine w_aln rfl ?_
  refine w_gi hL.gm rfl (by decide) rfl (hC1.2.2.2.1.1) ?_
  refine w_cv (st := []) rfl hL.gm rfl (Nat.le_of_ble_eq_true rfl) (fun kk h => h) ⟨Nat.le_of_ble_eq_true rfl, ?_⟩
  show wz (d + 2) mt_X12_placeOf.2.2.2.2.1 _ mt_X12_placeOf.2.2.2.2.1 [some (.inr (.inr (some m))), some (.inl L)] [] _ _ _ _
  refine w_iln rfl ?_
  refine w_bp ?_
  refine w_cmne (fun c1 => ?_) (fun c1 => ?_)
  · skip
    refine w_iln rfl ?_
    refine w_iret (fun q => by cases q) ?_
    refine w_aln rfl ?_
    refine w_aln rfl ?_
    refine w_gr hL.gm rfl (by decide) rfl (hC1.vr hL.m6) ?_
    refine w_sp ?_
    refine w_iald (v := (g 223)) hL.gs rfl (by show (0 : Int) ≤ 223; omega) (by show 223 < ((537 : Nat) : Int); omega) (hC1.vg (k := 223) (by decide) (by decide)) ?_
    refine w_cv (st := [.inl L]) rfl hL.gm rfl (Nat.le_of_ble_eq_true rfl) (fun kk h => h) ⟨Nat.le_of_ble_eq_true rfl, ?_⟩
    show wz (d + 2) mt_X12_placeOf.2.2.2.2.1 _ mt_X12_placeOf.2.2.2.2.1 [some (.inr (.inr (some m))), some (.inl (g 223))] [] _ _ _ _
    refine w_iln rfl ?_
    refine w_bp ?_
    refine w_cmne (fun c2 => ?_) (fun c2 => ?_)
    · skip
      refine w_iln rfl ?_
      refine w_iret (fun q => by cases q) ?_
      refine w_sub ⟨by show (-2147483648 : Int) ≤ L - (g 223); omega, by show L - (g 223) < (2147483648 : Int); omega⟩ ?_
      refine w_cs (st := []) rfl (Nat.le_of_ble_eq_true rfl) (fun kk h => h) ⟨Nat.le_of_ble_eq_true rfl, ?_⟩
      show wz (d + 2) mt_X12_sizeOf.2.2.2.2.1 _ mt_X12_sizeOf.2.2.2.2.1 [some (.inl (L - (g 223)))] [] _ _ _ _
      refine w_iln rfl ?_
      refine w_ifge (fun c3 => ?_) (fun c3 => ?_)
      · skip
        refine w_iln rfl ?_
        refine w_iret (fun q => by cases q) ?_
        refine w_isn ?_
        show wz _ _ _ _ [some (.inr (.inr (some m))), some (.inl x), some (.inl mi), some (.inl (L - (g 223))), none, none, none] _ _ _ _ _
        rw [show L - (g 223) = ye_wy H g L from by unfold ye_wy ye_pl; (repeat' split) <;> omega]
        refine r_moR21 (d := d) hL hC1 hH hx hm m0 lo hr1 k3 (by omega) (by omega) (by omega) (by omega) (by omega) (by omega) (by omega) k5 (by omega) (fun M9 q1 q2 => h L O P M9 rfl ?_)
        rw [ym, yg]
        by_cases c11 : mi = 11
        · rw [if_pos c11]; exact q2 c11
        · rw [if_neg c11]; exact q1 (by omega)
      · skip
        refine w_iln rfl ?_
        refine w_neg ⟨by show (-2147483648 : Int) ≤ L - (g 223); omega, by show L - (g 223) < (2147483648 : Int); omega⟩ (by omega) ?_
        refine w_goto ?_
        refine w_iret (fun q => by cases q) ?_
        refine w_isn ?_
        show wz _ _ _ _ [some (.inr (.inr (some m))), some (.inl x), some (.inl mi), some (.inl (-(L - (g 223)))), none, none, none] _ _ _ _ _
        rw [show (-(L - (g 223))) = ye_wy H g L from by unfold ye_wy ye_pl; (repeat' split) <;> omega]
        refine r_moR21 (d := d) hL hC1 hH hx hm m0 lo hr1 k3 (by omega) (by omega) (by omega) (by omega) (by omega) (by omega) (by omega) k5 (by omega) (fun M9 q1 q2 => h L O P M9 rfl ?_)
        rw [ym, yg]
        by_cases c11 : mi = 11
        · rw [if_pos c11]; exact q2 c11
        · rw [if_neg c11]; exact q1 (by omega)
    · skip
      refine w_aln rfl ?_
      refine w_gr hL.gm rfl (by decide) rfl (hC1.vr hL.m6) ?_
      refine w_ic ?_
      refine w_iald (v := (H 0)) hL.gs rfl (by show (0 : Int) ≤ 0; omega) (by show 0 < ((537 : Nat) : Int); omega) (hC1.vn hL (by show (0 : Int).toNat = 0; omega) (by decide)) ?_
      refine w_goto ?_
      refine w_iret (fun q => by cases q) ?_
      refine w_sub ⟨by show (-2147483648 : Int) ≤ L - (H 0); omega, by show L - (H 0) < (2147483648 : Int); omega⟩ ?_
      refine w_cs (st := []) rfl (Nat.le_of_ble_eq_true rfl) (fun kk h => h) ⟨Nat.le_of_ble_eq_true rfl, ?_⟩
      show wz (d + 2) mt_X12_sizeOf.2.2.2.2.1 _ mt_X12_sizeOf.2.2.2.2.1 [some (.inl (L - (H 0)))] [] _ _ _ _
      refine w_iln rfl ?_
      refine w_ifge (fun c4 => ?_) (fun c4 => ?_)
      · exfalso; omega
      · skip
        refine w_iln rfl ?_
        refine w_neg ⟨by show (-2147483648 : Int) ≤ L - (H 0); omega, by show L - (H 0) < (2147483648 : Int); omega⟩ (by omega) ?_
        refine w_goto ?_
        refine w_iret (fun q => by cases q) ?_
        refine w_isn ?_
        show wz _ _ _ _ [some (.inr (.inr (some m))), some (.inl x), some (.inl mi), some (.inl (-(L - (H 0)))), none, none, none] _ _ _ _ _
        rw [show (-(L - (H 0))) = ye_wy H g L from by unfold ye_wy ye_pl; (repeat' split) <;> omega]
        refine r_moR21 (d := d) hL hC1 hH hx hm m0 lo hr1 k3 (by omega) (by omega) (by omega) (by omega) (by omega) (by omega) (by omega) k5 (by omega) (fun M9 q1 q2 => h L O P M9 rfl ?_)
        rw [ym, yg]
        by_cases c11 : mi = 11
        · rw [if_pos c11]; exact q2 c11
        · rw [if_neg c11]; exact q1 (by omega)
  · skip
    refine w_aln rfl ?_
    refine w_gr hL.gm rfl (by decide) rfl (hC1.vr hL.m6) ?_
    refine w_ic ?_
    refine w_iald (v := (H 0)) hL.gs rfl (by show (0 : Int) ≤ 0; omega) (by show 0 < ((537 : Nat) : Int); omega) (hC1.vn hL (by show (0 : Int).toNat = 0; omega) (by decide)) ?_
    refine w_goto ?_
    refine w_iret (fun q => by cases q) ?_
    refine w_aln rfl ?_
    refine w_aln rfl ?_
    refine w_gr hL.gm rfl (by decide) rfl (hC1.vr hL.m6) ?_
    refine w_sp ?_
    refine w_iald (v := (g 223)) hL.gs rfl (by show (0 : Int) ≤ 223; omega) (by show 223 < ((537 : Nat) : Int); omega) (hC1.vg (k := 223) (by decide) (by decide)) ?_
    refine w_cv (st := [.inl (H 0)]) rfl hL.gm rfl (Nat.le_of_ble_eq_true rfl) (fun kk h => h) ⟨Nat.le_of_ble_eq_true rfl, ?_⟩
    show wz (d + 2) mt_X12_placeOf.2.2.2.2.1 _ mt_X12_placeOf.2.2.2.2.1 [some (.inr (.inr (some m))), some (.inl (g 223))] [] _ _ _ _
    refine w_iln rfl ?_
    refine w_bp ?_
    refine w_cmne (fun c5 => ?_) (fun c5 => ?_)
    · skip
      refine w_iln rfl ?_
      refine w_iret (fun q => by cases q) ?_
      refine w_sub ⟨by show (-2147483648 : Int) ≤ (H 0) - (g 223); omega, by show (H 0) - (g 223) < (2147483648 : Int); omega⟩ ?_
      refine w_cs (st := []) rfl (Nat.le_of_ble_eq_true rfl) (fun kk h => h) ⟨Nat.le_of_ble_eq_true rfl, ?_⟩
      show wz (d + 2) mt_X12_sizeOf.2.2.2.2.1 _ mt_X12_sizeOf.2.2.2.2.1 [some (.inl ((H 0) - (g 223)))] [] _ _ _ _
      refine w_iln rfl ?_
      refine w_ifge (fun c6 => ?_) (fun c6 => ?_)
      · skip
        refine w_iln rfl ?_
        refine w_iret (fun q => by cases q) ?_
        refine w_isn ?_
        show wz _ _ _ _ [some (.inr (.inr (some m))), some (.inl x), some (.inl mi), some (.inl ((H 0) - (g 223))), none, none, none] _ _ _ _ _
        rw [show (H 0) - (g 223) = ye_wy H g L from by unfold ye_wy ye_pl; (repeat' split) <;> omega]
        refine r_moR21 (d := d) hL hC1 hH hx hm m0 lo hr1 k3 (by omega) (by omega) (by omega) (by omega) (by omega) (by omega) (by omega) k5 (by omega) (fun M9 q1 q2 => h L O P M9 rfl ?_)
        rw [ym, yg]
        by_cases c11 : mi = 11
        · rw [if_pos c11]; exact q2 c11
        · rw [if_neg c11]; exact q1 (by omega)
      · exfalso; omega
    · skip
      refine w_aln rfl ?_
      refine w_gr hL.gm rfl (by decide) rfl (hC1.vr hL.m6) ?_
      refine w_ic ?_
      refine w_iald (v := (H 0)) hL.gs rfl (by show (0 : Int) ≤ 0; omega) (by show 0 < ((537 : Nat) : Int); omega) (hC1.vn hL (by show (0 : Int).toNat = 0; omega) (by decide)) ?_
      refine w_goto ?_
      refine w_iret (fun q => by cases q) ?_
      refine w_sub ⟨by show (-2147483648 : Int) ≤ (H 0) - (H 0); omega, by show (H 0) - (H 0) < (2147483648 : Int); omega⟩ ?_
      refine w_cs (st := []) rfl (Nat.le_of_ble_eq_true rfl) (fun kk h => h) ⟨Nat.le_of_ble_eq_true rfl, ?_⟩
      show wz (d + 2) mt_X12_sizeOf.2.2.2.2.1 _ mt_X12_sizeOf.2.2.2.2.1 [some (.inl ((H 0) - (H 0)))] [] _ _ _ _
      refine w_iln rfl ?_
      refine w_ifge (fun c7 => ?_) (fun c7 => ?_)
      · skip
        refine w_iln rfl ?_
        refine w_iret (fun q => by cases q) ?_
        refine w_isn ?_
        show wz _ _ _ _ [some (.inr (.inr (some m))), some (.inl x), some (.inl mi), some (.inl ((H 0) - (H 0))), none, none, none] _ _ _ _ _
        rw [show (H 0) - (H 0) = ye_wy H g L from by unfold ye_wy ye_pl; (repeat' split) <;> omega]
        refine r_moR21 (d := d) hL hC1 hH hx hm m0 lo hr1 k3 (by omega) (by omega) (by omega) (by omega) (by omega) (by omega) (by omega) k5 (by omega) (fun M9 q1 q2 => h L O P M9 rfl ?_)
        rw [ym, yg]
        by_cases c11 : mi = 11
        · rw [if_pos c11]; exact q2 c11
        · rw [if_neg c11]; exact q1 (by omega)
      · exfalso; omega
