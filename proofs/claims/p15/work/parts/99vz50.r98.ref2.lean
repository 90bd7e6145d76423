/-! ===== the cheapest letting: the search of the reference (laid by a program) ===== -/
theorem cs_cb_cg {H HA HA' : Nat → Int} {m t : Nat} (h : ∀ q, q < t → HA' (3 * m + q) = HA (3 * m + q)) : ∀ n k, k + n ≤ t → cs_cb H HA' m n k = cs_cb H HA m n k
  | 0, _, _ => rfl
  | n + 1, k, e => by
    show (if HA' (3 * m + k) + _ < _ then (0 : Int) else cs_cb H HA' m n (k + 1)) = (if HA (3 * m + k) + _ < _ then (0 : Int) else cs_cb H HA m n (k + 1))
    rw [h k (by omega), cs_cb_cg h n (k + 1) (by omega)]
def cr_at (H TR : Nat → Int) (mi : Int) (a : Nat) : Prop := (mi = 0 ∧ a = cs_t H) ∨ (1 ≤ mi ∧ TR (mi - 1).toNat = cs_code H a)
theorem cs_code_c {H : Nat → Int} {a : Nat} (ha : a ≤ cs_t H) : (a = cs_t H ∧ cs_code H a = 8) ∨ (a < cs_t H ∧ cs_code H a = a) := by
  unfold cs_code; split <;> omega
theorem cs_node_cut {H : Nat → Int} {b : cs_R} {k : Int} {P : Nat → Int} {r m a : Nat} {L : Nat → Int} {n : Nat} (ho : cs_ok H) (hb : cs_le (cs_node H b k P r m a L n) (k + cs_cost H a n)) : cs_node H b k P r m a L (n + 1) = cs_node H b k P r m a L n := by
  rw [cs_node_s]
  exact cs_cut (fun c g => cs_S_0 ho _ _ _ _ _ g) hb
theorem cs_node_n {H : Nat → Int} {b : cs_R} {k : Int} {P : Nat → Int} {r m a : Nat} {L : Nat → Int} (h : cs_S H (r + 1) m a L = none) : b = cs_min b (cs_pre k P m (cs_S H (r + 1) m a L)) := by
  rw [h]; exact (cs_min_none b).symm
/-- the end of a way -/
theorem cs_fin {H P0 : Nat → Int} {b : cs_R} {k best : Int} {P PL PL2 : Nat → Int} {a : Nat} {L : Nat → Int} (hN : cs_N 1000000000 P0 b best PL) (hk : k < best) (hm : cs_met H L) (hP : ∀ j, j < 12 → PL2 j = P j) (k0 : 0 ≤ k) : cs_N 1000000000 P0 (cs_min b (cs_pre k P 12 (cs_S H 0 12 a L))) k PL2 := by
  have hb := hN.b (by decide)
  have e : cs_S H 0 12 a L = some (0, fun _ => 0) := if_pos hm
  rw [e]
  show cs_N 1000000000 P0 (cs_min b (some (k + 0, fun j => if j < 12 then P j else 0))) k PL2
  rw [hN.tk _ rfl (show k + 0 < best by omega)]
  exact ⟨show k + 0 = k by omega, k0, by omega, fun j hj => (hP j hj).trans (if_pos hj).symm⟩
theorem cs_fin_n {H : Nat → Int} {b : cs_R} {k : Int} {P : Nat → Int} {a : Nat} {L : Nat → Int} (hm : ¬ cs_met H L) : b = cs_min b (cs_pre k P 12 (cs_S H 0 12 a L)) := by
  have e : cs_S H 0 12 a L = none := if_neg hm
  rw [e]; exact (cs_min_none b).symm
theorem r_go {G : mj_G} {M0 : mj_M} {m s : Nat} {w : Nat → Nat} {Q : mj_P} {d : Nat} (gr : cp_GR G w) (br : cp_BR M0 w m) (gm : G m = (1012, 0)) (gs : G s = (51100, 537)) (m6 : M0.2.2 m 6 = some s) (hr : rv_r4 (M0.1 s) 0) (t1 : 1 ≤ M0.1 s 0) (t3 : M0.1 s 0 ≤ 3) {P0 : Nat → Int} : ∀ (r : Nat) (mi : Int) (P : Nat → Int) (k : Int) (a : Nat) (L : Nat → Int) (b : cs_R) (best : Int) (TR CO HA PL : Nat → Int) (M : mj_M) (v4 : Option mj_V) (cb sb : Nat), mi + r = 12 → 0 ≤ mi → cr_C w M0 TR CO HA PL M → a ≤ cs_t (M0.1 s) → cr_at (M0.1 s) TR mi a → (∀ j : Nat, (j : Int) < mi → TR j = P j) → CO mi.toNat = k → 0 ≤ k → k ≤ 1296 * mi → (∀ q, q < cs_t (M0.1 s) → L q = M0.1 s (8 + 9 * q) - HA (3 * mi.toNat + q)) → (∀ q : Nat, (q : Int) < M0.1 s 0 → 0 ≤ HA (3 * mi.toNat + q) ∧ HA (3 * mi.toNat + q) ≤ 999 * mi) → (0 < r → TR mi.toNat = -1) → cs_N 1000000000 P0 b best PL → k < best → (∀ (b' : cs_R) (best' mj : Int) (TR' CO' HA' PL' : Nat → Int) (M' : mj_M) (v4' : Option mj_V) (cb sb : Nat), cr_C w M0 TR' CO' HA' PL' M' → (∀ j : Nat, (j : Int) < mi → TR' j = TR j) → (∀ j : Nat, (j : Int) ≤ mi → CO' j = CO j) → (∀ j : Nat, (j : Int) < 3 * mi + 3 → HA' j = HA j) → cs_N 1000000000 P0 b' best' PL' → b' = cs_min b (cs_pre k P mi.toNat (cs_S (M0.1 s) r mi.toNat a L)) → mj + 1 = mi → wz (d + 3) mt_X12_cheapest.2.2.2.2.1 Q (mt_X12_cheapest.2.2.2.2.1.drop 41) [some (.inr (.inr (some m))), some (.inl (M0.1 s 0)), some (.inl best'), some (.inl mj), v4'] [] G M' cb sb) → wz (d + 3) mt_X12_cheapest.2.2.2.2.1 Q (mt_X12_cheapest.2.2.2.2.1.drop 41) [some (.inr (.inr (some m))), some (.inl (M0.1 s 0)), some (.inl best), some (.inl mi), v4] [] G M cb sb := by
  have et := cs_te hr
  have b1 := cs_r1 hr
  have ho := cs_oke hr
  intro r
  induction r with
  | zero =>
    intro mi P k a L b best TR CO HA PL M v4 cb sb e m0 hC ha hat hP hk k0 kb hL hH ht hN hlt h
    obtain rfl : mi = 12 := by omega
    have bb := hN.b (by decide)
    have ek : CO 12 = k := hk
    have hcb := cs_cb_s (H := M0.1 s) (HA := HA) (m := 12) (cs_t (M0.1 s)) 0
    obtain ⟨c0, hc0⟩ : ∃ z, z = cs_cb (M0.1 s) HA 12 (cs_t (M0.1 s)) 0 := ⟨_, rfl⟩
    rw [← hc0] at hcb
    have c01 : c0 = 1 ∨ c0 = 0 := hcb.elim (fun q => Or.inl q.1) (fun q => Or.inr q.1)
    refine w_iln rfl ?_
    refine w_iflt (fun c1 => ?_) (fun c1 => ?_)
    · exfalso; omega
    · skip
      refine w_iln rfl ?_
      refine w_bp ?_
      refine w_cmne (fun c2 => ?_) (fun c2 => ?_)
      · exfalso; omega
      · skip
        refine w_aln rfl ?_
        refine w_gr gm rfl (by decide) rfl (hC.r (br.2.1)) ?_
        refine w_iln rfl ?_
        refine w_iald (v := k) gr.2.1 rfl (by show (0 : Int) ≤ 12; omega) (by show 12 < ((13 : Nat) : Int); omega) ((hC.2.2.2.1 _ (by decide)).trans ek) ?_
        refine w_iln rfl ?_
        refine w_cmge (fun c3 => ?_) (fun c3 => ?_)
        · exfalso; omega
        · skip
          refine w_aln rfl ?_
          refine w_iln rfl ?_
          refine w_cv (st := []) rfl gm rfl (Nat.le_of_ble_eq_true rfl) (fun kk h => h) (r_X12_canBe (d := d) gr br gm gs m6 hr t1 t3 hC (mi := 12) (by decide) (by decide) (fun q hq => ⟨(hH q hq).1, by have := (hH q hq).2; omega⟩) ?_)
          show wz _ _ _ _ _ (.inl (cs_cb (M0.1 s) HA 12 (cs_t (M0.1 s)) 0) :: _) _ _ _ _
          rw [← hc0]
          refine w_ifeq (fun c4 => ?_) (fun c4 => ?_)
          · skip
            refine w_ii rfl ⟨by show (-2147483648 : Int) ≤ 11; omega, by show 11 < (2147483648 : Int); omega⟩ ?_
            show wz _ _ _ _ [some (.inr (.inr (some m))), some (.inl (M0.1 s 0)), some (.inl best), some (.inl 11), v4] _ _ _ _ _
            refine w_goto ?_
            refine h b best _ TR CO HA PL M _ _ _ hC (fun _ _ => rfl) (fun _ _ => rfl) (fun _ _ => rfl) hN (cs_fin_n (fun hm => ?_)) (by omega)
            obtain ⟨-, q, -, hq, hlt2⟩ := hcb.resolve_left (fun z => by omega)
            have h1 := hm q (by omega)
            have h2 := hL q (by omega)
            have h3 : cs_all (M0.1 s) q (12 - 12) 12 = 0 := rfl
            have h4 : HA (3 * (12 : Int).toNat + q) = HA (3 * 12 + q) := rfl
            omega
          · skip
            refine w_aln rfl ?_
            refine w_gr gm rfl (by decide) rfl (hC.r (br.2.1)) ?_
            refine w_iln rfl ?_
            refine w_iald (v := k) gr.2.1 rfl (by show (0 : Int) ≤ 12; omega) (by show 12 < ((13 : Nat) : Int); omega) ((hC.2.2.2.1 _ (by decide)).trans ek) ?_
            refine w_isn ?_
            show wz _ _ _ _ [some (.inr (.inr (some m))), some (.inl (M0.1 s 0)), some (.inl k), some (.inl 12), v4] _ _ _ _ _
            refine w_ic ?_
            refine w_is ?_
            show wz _ _ _ _ [some (.inr (.inr (some m))), some (.inl (M0.1 s 0)), some (.inl k), some (.inl 12), some (.inl 0)] _ _ _ _ _
            have hmet : cs_met (M0.1 s) L := fun q hq => by
              obtain ⟨-, h1⟩ := hcb.resolve_right (fun z => by omega)
              have h1 := h1 q (Nat.zero_le _) (by omega)
              have h2 := hL q hq
              have h3 : cs_all (M0.1 s) q (12 - 12) 12 = 0 := rfl
              have h4 : HA (3 * (12 : Int).toNat + q) = HA (3 * 12 + q) := rfl
              omega
            refine r_pc (d := d + 1) gr br gm gs m6 hr t1 t3 hC 12 0 PL _ _ _ rfl (by decide) hC (fun j hj => absurd hj (by omega)) (fun PL2 M2 v4 cb sb hC2 hp2 => ?_)
            have hN2 := cs_fin (a := a) (L := L) hN hlt hmet (fun j hj => (hp2 j hj).trans (hP j (by omega))) k0
            refine w_ii rfl ⟨by show (-2147483648 : Int) ≤ 11; omega, by show 11 < (2147483648 : Int); omega⟩ ?_
            show wz _ _ _ _ [some (.inr (.inr (some m))), some (.inl (M0.1 s 0)), some (.inl k), some (.inl 11), v4] _ _ _ _ _
            refine w_goto ?_
            exact h _ k _ TR CO HA PL2 M2 _ _ _ hC2 (fun _ _ => rfl) (fun _ _ => rfl) (fun _ _ => rfl) hN2 rfl (by omega)
  | succ r ih =>
    intro mi P k a L b best TR CO HA PL M v4 cb sb e m0 hC ha hat hP hk k0 kb hL hH ht hN hlt h
    have ht1 := ht (by omega)
    have hcb := cs_cb_s (H := M0.1 s) (HA := HA) (m := mi.toNat) (cs_t (M0.1 s)) 0
    have hr12 : 12 - mi.toNat = r + 1 := by omega
    rw [hr12] at hcb
    obtain ⟨c0, hc0⟩ : ∃ z, z = cs_cb (M0.1 s) HA mi.toNat (cs_t (M0.1 s)) 0 := ⟨_, rfl⟩
    rw [← hc0] at hcb
    by_cases hcan : c0 = 0
    · have bb := hN.b (by decide)
      have hnone : cs_S (M0.1 s) (r + 1) mi.toNat a L = none := by
        obtain ⟨-, q, -, hq, hlt2⟩ := hcb.resolve_left (fun z => by omega)
        exact cs_can_n (k := q) (by omega) (by rw [hL q (by omega)]; omega)
      refine w_iln rfl ?_
      refine w_iflt (fun c1 => ?_) (fun c1 => ?_)
      · exfalso; omega
      · skip
        refine w_iln rfl ?_
        refine w_bp ?_
        refine w_cmne (fun c2 => ?_) (fun c2 => ?_)
        · skip
          refine w_aln rfl ?_
          refine w_gr gm rfl (by decide) rfl (hC.r (br.1)) ?_
          refine w_iln rfl ?_
          refine w_aln rfl ?_
          refine w_gr gm rfl (by decide) rfl (hC.r (br.1)) ?_
          refine w_iln rfl ?_
          refine w_iald (v := (TR mi.toNat)) gr.1 rfl (by show (0 : Int) ≤ mi; omega) (by show mi < ((13 : Nat) : Int); omega) (hC.2.2.1 _ (by show mi.toNat < 13; omega)) ?_
          refine w_bp ?_
          refine w_cmne (fun c3 => ?_) (fun c3 => ?_)
          · skip
            refine w_aln rfl ?_
            refine w_gr gm rfl (by decide) rfl (hC.r (br.1)) ?_
            refine w_iln rfl ?_
            refine w_iald (v := (TR mi.toNat)) gr.1 rfl (by show (0 : Int) ≤ mi; omega) (by show mi < ((13 : Nat) : Int); omega) (hC.2.2.1 _ (by show mi.toNat < 13; omega)) ?_
            refine w_ic ?_
            refine w_add ⟨by show (-2147483648 : Int) ≤ (TR mi.toNat) + 1; omega, by show (TR mi.toNat) + 1 < (2147483648 : Int); omega⟩ ?_
            refine w_iln rfl ?_
            refine w_cmne (fun c4 => ?_) (fun c4 => ?_)
            · skip
              refine w_aln rfl ?_
              refine w_gr gm rfl (by decide) rfl (hC.r (br.1)) ?_
              refine w_iln rfl ?_
              refine w_iald (v := (TR mi.toNat)) gr.1 rfl (by show (0 : Int) ≤ mi; omega) (by show mi < ((13 : Nat) : Int); omega) (hC.2.2.1 _ (by show mi.toNat < 13; omega)) ?_
              refine w_ic ?_
              refine w_add ⟨by show (-2147483648 : Int) ≤ (TR mi.toNat) + 1; omega, by show (TR mi.toNat) + 1 < (2147483648 : Int); omega⟩ ?_
              refine w_iast gr.1 rfl (by decide) (by show (0 : Int) ≤ mi; omega) (by show mi < ((13 : Nat) : Int); omega) ?_
              have hC5 := hC.h5 (j := mi.toNat) (v := (TR mi.toNat) + 1) gr
              refine w_aln rfl ?_
              refine w_gr gm rfl (by decide) rfl (hC5.r (br.1)) ?_
              refine w_iln rfl ?_
              refine w_iald (v := (TR mi.toNat) + 1) gr.1 rfl (by show (0 : Int) ≤ mi; omega) (by show mi < ((13 : Nat) : Int); omega) ((hC5.2.2.1 _ (by show mi.toNat < 13; omega)).trans rv_up_s) ?_
              refine w_bp ?_
              refine w_cmgt (fun c6 => ?_) (fun c6 => ?_)
              · exfalso; omega
              · skip
                refine w_aln rfl ?_
                refine w_iln rfl ?_
                refine w_cv (st := []) rfl gm rfl (Nat.le_of_ble_eq_true rfl) (fun kk h => h) (r_X12_canBe (d := d) gr br gm gs m6 hr t1 t3 hC5 (mi := mi) (by omega) (by omega) (fun q hq => ⟨(hH q hq).1, by have := (hH q hq).2; omega⟩) ?_)
                show wz _ _ _ _ _ (.inl (cs_cb (M0.1 s) HA mi.toNat (cs_t (M0.1 s)) 0) :: _) _ _ _ _
                rw [← hc0, hcan]
                refine w_ifne (fun c7 => ?_) (fun c7 => ?_)
                · exfalso; omega
                · skip
                  refine w_ii rfl ⟨by show (-2147483648 : Int) ≤ mi + (-1); omega, by show mi + (-1) < (2147483648 : Int); omega⟩ ?_
                  show wz _ _ _ _ [some (.inr (.inr (some m))), some (.inl (M0.1 s 0)), some (.inl best), some (.inl (mi + (-1))), v4] _ _ _ _ _
                  refine w_goto ?_
                  exact h b best _ _ CO HA PL _ _ _ _ hC5 (fun j hj => rv_up_n (by omega)) (fun _ _ => rfl) (fun _ _ => rfl) hN (cs_node_n hnone) (by omega)
            · exfalso; omega
          · exfalso; omega
        · exfalso; omega
    · have hc1 : c0 = 1 := hcb.elim (fun q => q.1) (fun q => absurd q.1 hcan)
      have key : ∀ (n : Nat) (ni : Int) (bn : cs_R) (bestn : Int) (TR' CO' HA' PL' : Nat → Int) (M' : mj_M) (v4 : Option mj_V) (cb sb : Nat), ni + n = M0.1 s 0 + 1 → 0 ≤ ni → cr_C w M0 TR' CO' HA' PL' M' → (∀ j : Nat, (j : Int) < mi → TR' j = TR j) → (∀ j : Nat, (j : Int) ≤ mi → CO' j = CO j) → (∀ j : Nat, (j : Int) < 3 * mi + 3 → HA' j = HA j) → (ni ≤ M0.1 s 0 → TR' mi.toNat = ni - 1) → (ni = M0.1 s 0 + 1 → TR' mi.toNat = 8) → cs_N 1000000000 P0 bn bestn PL' → bn = cs_node (M0.1 s) b k P r mi.toNat a L ni.toNat → wz (d + 3) mt_X12_cheapest.2.2.2.2.1 Q (mt_X12_cheapest.2.2.2.2.1.drop 41) [some (.inr (.inr (some m))), some (.inl (M0.1 s 0)), some (.inl bestn), some (.inl mi), v4] [] G M' cb sb := by
        intro n
        induction n with
        | zero =>
          intro ni bn bestn TR' CO' HA' PL' M' v4 cb sb en n0 hC' q1 q2 q3 w1 w2 hNn ebn
          have w3 := w2 (by omega)
          have bb := hNn.b (by decide)
          refine w_iln rfl ?_
          refine w_iflt (fun c1 => ?_) (fun c1 => ?_)
          · exfalso; omega
          · skip
            refine w_iln rfl ?_
            refine w_bp ?_
            refine w_cmne (fun c2 => ?_) (fun c2 => ?_)
            · skip
              refine w_aln rfl ?_
              refine w_gr gm rfl (by decide) rfl (hC'.r (br.1)) ?_
              refine w_iln rfl ?_
              refine w_aln rfl ?_
              refine w_gr gm rfl (by decide) rfl (hC'.r (br.1)) ?_
              refine w_iln rfl ?_
              refine w_iald (v := (TR' mi.toNat)) gr.1 rfl (by show (0 : Int) ≤ mi; omega) (by show mi < ((13 : Nat) : Int); omega) (hC'.2.2.1 _ (by show mi.toNat < 13; omega)) ?_
              refine w_bp ?_
              refine w_cmne (fun c3 => ?_) (fun c3 => ?_)
              · exfalso; omega
              · skip
                refine w_bp ?_
                refine w_goto ?_
                refine w_iast gr.1 rfl (by decide) (by show (0 : Int) ≤ mi; omega) (by show mi < ((13 : Nat) : Int); omega) ?_
                have hC4 := hC'.h5 (j := mi.toNat) (v := 9) gr
                refine w_aln rfl ?_
                refine w_gr gm rfl (by decide) rfl (hC4.r (br.1)) ?_
                refine w_iln rfl ?_
                refine w_iald (v := 9) gr.1 rfl (by show (0 : Int) ≤ mi; omega) (by show mi < ((13 : Nat) : Int); omega) ((hC4.2.2.1 _ (by show mi.toNat < 13; omega)).trans rv_up_s) ?_
                refine w_bp ?_
                refine w_cmgt (fun c5 => ?_) (fun c5 => ?_)
                · skip
                  refine w_ii rfl ⟨by show (-2147483648 : Int) ≤ mi + (-1); omega, by show mi + (-1) < (2147483648 : Int); omega⟩ ?_
                  show wz _ _ _ _ [some (.inr (.inr (some m))), some (.inl (M0.1 s 0)), some (.inl bestn), some (.inl (mi + (-1))), v4] _ _ _ _ _
                  refine w_goto ?_
                  refine h bn bestn _ _ CO' HA' PL' _ _ _ _ hC4 (fun j hj => (rv_up_n (by omega)).trans (q1 j hj)) q2 q3 hNn ?_ (by omega)
                  rw [ebn, show ni.toNat = cs_t (M0.1 s) + 1 by omega, cs_node_e]
                · exfalso; omega
            · exfalso; omega
        | succ n ihn =>
          intro ni bn bestn TR' CO' HA' PL' M' v4 cb sb en n0 hC' q1 q2 q3 w1 w2 hNn ebn
          have w3 := w1 (by omega)
          have bb := hNn.b (by decide)
          have hn9 : ni.toNat ≤ cs_t (M0.1 s) := by omega
          have cc := cs_code_c (H := M0.1 s) hn9
          have hq3 : ∀ q : Nat, (q : Int) < M0.1 s 0 → HA' (3 * mi.toNat + q) = HA (3 * mi.toNat + q) := fun q hq => q3 _ (by omega)
          have hb2 : ∀ q : Nat, (q : Int) < M0.1 s 0 → 0 ≤ HA' (3 * mi.toNat + q) ∧ HA' (3 * mi.toNat + q) ≤ 12000 := fun q hq => by
            rw [hq3 q hq]; exact ⟨(hH q hq).1, by have := (hH q hq).2; omega⟩
          have ecb : cs_cb (M0.1 s) HA' mi.toNat (cs_t (M0.1 s)) 0 = 1 := by
            rw [← hc1, hc0]; exact cs_cb_cg (t := cs_t (M0.1 s)) (fun q hq => hq3 q (by omega)) _ _ (by omega)
          have ek : CO' mi.toNat = k := (q2 _ (by omega)).trans hk
          have cst := cs_cost_9 hr t3 (a := a) (b := ni.toNat) ha hn9
          have eat : (mi = 0 ∧ a = cs_t (M0.1 s)) ∨ (1 ≤ mi ∧ TR' (mi - 1).toNat = cs_code (M0.1 s) a) := by
            rcases hat with z | z
            · exact Or.inl z
            · exact Or.inr ⟨z.1, (q1 _ (by omega)).trans z.2⟩
          refine w_iln rfl ?_
          refine w_iflt (fun c1 => ?_) (fun c1 => ?_)
          · exfalso; omega
          · skip
            refine w_iln rfl ?_
            refine w_bp ?_
            refine w_cmne (fun c2 => ?_) (fun c2 => ?_)
            · skip
              refine w_aln rfl ?_
              refine w_gr gm rfl (by decide) rfl (hC'.r (br.1)) ?_
              refine w_iln rfl ?_
              refine w_aln rfl ?_
              refine w_gr gm rfl (by decide) rfl (hC'.r (br.1)) ?_
              refine w_iln rfl ?_
              refine w_iald (v := (TR' mi.toNat)) gr.1 rfl (by show (0 : Int) ≤ mi; omega) (by show mi < ((13 : Nat) : Int); omega) (hC'.2.2.1 _ (by show mi.toNat < 13; omega)) ?_
              refine w_bp ?_
              refine w_cmne (fun c3 => ?_) (fun c3 => ?_)
              · skip
                refine w_aln rfl ?_
                refine w_gr gm rfl (by decide) rfl (hC'.r (br.1)) ?_
                refine w_iln rfl ?_
                refine w_iald (v := (TR' mi.toNat)) gr.1 rfl (by show (0 : Int) ≤ mi; omega) (by show mi < ((13 : Nat) : Int); omega) (hC'.2.2.1 _ (by show mi.toNat < 13; omega)) ?_
                refine w_ic ?_
                refine w_add ⟨by show (-2147483648 : Int) ≤ (TR' mi.toNat) + 1; omega, by show (TR' mi.toNat) + 1 < (2147483648 : Int); omega⟩ ?_
                refine w_iln rfl ?_
                refine w_cmne (fun c4 => ?_) (fun c4 => ?_)
                · skip
                  refine w_aln rfl ?_
                  refine w_gr gm rfl (by decide) rfl (hC'.r (br.1)) ?_
                  refine w_iln rfl ?_
                  refine w_iald (v := (TR' mi.toNat)) gr.1 rfl (by show (0 : Int) ≤ mi; omega) (by show mi < ((13 : Nat) : Int); omega) (hC'.2.2.1 _ (by show mi.toNat < 13; omega)) ?_
                  refine w_ic ?_
                  refine w_add ⟨by show (-2147483648 : Int) ≤ (TR' mi.toNat) + 1; omega, by show (TR' mi.toNat) + 1 < (2147483648 : Int); omega⟩ ?_
                  refine w_iast gr.1 rfl (by decide) (by show (0 : Int) ≤ mi; omega) (by show mi < ((13 : Nat) : Int); omega) ?_
                  have hC5 := hC'.h5 (j := mi.toNat) (v := (TR' mi.toNat) + 1) gr
                  refine w_aln rfl ?_
                  refine w_gr gm rfl (by decide) rfl (hC5.r (br.1)) ?_
                  refine w_iln rfl ?_
                  refine w_iald (v := (TR' mi.toNat) + 1) gr.1 rfl (by show (0 : Int) ≤ mi; omega) (by show mi < ((13 : Nat) : Int); omega) ((hC5.2.2.1 _ (by show mi.toNat < 13; omega)).trans rv_up_s) ?_
                  refine w_bp ?_
                  refine w_cmgt (fun c6 => ?_) (fun c6 => ?_)
                  · exfalso; omega
                  · skip
                    refine w_aln rfl ?_
                    refine w_iln rfl ?_
                    refine w_cv (st := []) rfl gm rfl (Nat.le_of_ble_eq_true rfl) (fun kk h => h) (r_X12_canBe (d := d) gr br gm gs m6 hr t1 t3 hC5 (mi := mi) (by omega) (by omega) hb2 ?_)
                    show wz _ _ _ _ _ (.inl (cs_cb (M0.1 s) HA' mi.toNat (cs_t (M0.1 s)) 0) :: _) _ _ _ _
                    rw [ecb]
                    refine w_ifne (fun c7 => ?_) (fun c7 => ?_)
                    · skip
                      refine w_aln rfl ?_
                      refine w_gr gm rfl (by decide) rfl (hC5.r (br.2.1)) ?_
                      refine w_iln rfl ?_
                      refine w_ic ?_
                      refine w_add ⟨by show (-2147483648 : Int) ≤ mi + 1; omega, by show mi + 1 < (2147483648 : Int); omega⟩ ?_
                      refine w_aln rfl ?_
                      refine w_gr gm rfl (by decide) rfl (hC5.r (br.2.1)) ?_
                      refine w_iln rfl ?_
                      refine w_iald (v := k) gr.2.1 rfl (by show (0 : Int) ≤ mi; omega) (by show mi < ((13 : Nat) : Int); omega) ((hC5.2.2.2.1 _ (by show mi.toNat < 13; omega)).trans ek) ?_
                      refine w_aln rfl ?_
                      refine w_iln rfl ?_
                      refine w_aln rfl ?_
                      refine w_gr gm rfl (by decide) rfl (hC5.r (br.1)) ?_
                      refine w_iln rfl ?_
                      refine w_iald (v := (TR' mi.toNat) + 1) gr.1 rfl (by show (0 : Int) ≤ mi; omega) (by show mi < ((13 : Nat) : Int); omega) ((hC5.2.2.1 _ (by show mi.toNat < 13; omega)).trans rv_up_s) ?_
                      have etv : (TR' mi.toNat) + 1 = cs_code (M0.1 s) ni.toNat := by omega
                      refine w_cv (st := [.inl k, .inl (mi + 1), .inr (.inr (some (w 346)))]) rfl gm rfl (Nat.le_of_ble_eq_true rfl) (fun kk h => h) (r_X12_costOf (d := d + 1) gr br gm gs m6 hr t1 t3 hC5 (mi := mi) (to := (TR' mi.toNat) + 1) (a := a) (b := ni.toNat) (by omega) (by omega) ha hn9 (eat.elim Or.inl (fun z => Or.inr ⟨z.1, (rv_up_n (by omega)).trans z.2⟩)) etv ?_)
                      refine w_add ⟨by show (-2147483648 : Int) ≤ k + (cs_cost (M0.1 s) a ni.toNat); omega, by show k + (cs_cost (M0.1 s) a ni.toNat) < (2147483648 : Int); omega⟩ ?_
                      refine w_iast gr.2.1 rfl (by decide) (by show (0 : Int) ≤ mi + 1; omega) (by show mi + 1 < ((13 : Nat) : Int); omega) ?_
                      have hC8 := hC5.h6 (j := (mi + 1).toNat) (v := k + (cs_cost (M0.1 s) a ni.toNat)) gr
                      refine w_aln rfl ?_
                      refine w_gr gm rfl (by decide) rfl (hC8.r (br.2.1)) ?_
                      refine w_iln rfl ?_
                      refine w_ic ?_
                      refine w_add ⟨by show (-2147483648 : Int) ≤ mi + 1; omega, by show mi + 1 < (2147483648 : Int); omega⟩ ?_
                      refine w_iald (v := k + (cs_cost (M0.1 s) a ni.toNat)) gr.2.1 rfl (by show (0 : Int) ≤ mi + 1; omega) (by show mi + 1 < ((13 : Nat) : Int); omega) ((hC8.2.2.2.1 _ (by show (mi + 1).toNat < 13; omega)).trans rv_up_s) ?_
                      refine w_iln rfl ?_
                      refine w_cmlt (fun c9 => ?_) (fun c9 => ?_)
                      · skip
                        refine w_ic ?_
                        refine w_is ?_
                        show wz _ _ _ _ [some (.inr (.inr (some m))), some (.inl (M0.1 s 0)), some (.inl bestn), some (.inl mi), some (.inl 0)] _ _ _ _ _
                        have etr : (rv_up TR' mi.toNat ((TR' mi.toNat) + 1)) mi.toNat = ((TR' mi.toNat) + 1) := rv_up_s
                        refine r_hv (d := d + 1) gr br gm gs m6 hr t1 t3 hC8 (mi := mi) (best := bestn) (tv := (TR' mi.toNat) + 1) (by omega) (by omega) etr hb2 (cs_t (M0.1 s)) 0 HA' _ _ _ (by omega) (by decide) hC8 (fun _ _ => rfl) (fun q hq => absurd hq (by omega)) (fun HA2 M2 v4 cb sb hC2 g1 g2 => ?_)
                        refine w_ii rfl ⟨by show (-2147483648 : Int) ≤ mi + 1; omega, by show mi + 1 < (2147483648 : Int); omega⟩ ?_
                        show wz _ _ _ _ [some (.inr (.inr (some m))), some (.inl (M0.1 s 0)), some (.inl bestn), some (.inl (mi + 1)), v4] _ _ _ _ _
                        refine w_iln rfl ?_
                        refine w_bp ?_
                        refine w_cmge (fun c10 => ?_) (fun c10 => ?_)
                        · skip
                          have em : (mi + 1).toNat = mi.toNat + 1 := by omega
                          refine ih (mi + 1) (fun j => if j = mi.toNat then cs_code (M0.1 s) ni.toNat else P j) (k + (cs_cost (M0.1 s) a ni.toNat)) ni.toNat (cs_lk (M0.1 s) L ni.toNat mi.toNat) bn bestn _ _ HA2 PL' _ _ _ _ (by omega) (by omega) hC2 hn9 (Or.inr ⟨by omega, ?_⟩) (fun j hj => ?_) ?_ (by omega) (by omega) (fun q hq => ?_) (fun q hq => ?_) (fun hr0 => ?_) hNn (by omega) (fun b2 best2 mj TR2 CO2 HA3 PL2 M2 v2 cb2 sb2 hC3 p1 p2 p3 hN2 e2 ej => ?_)
                          · rw [show (mi + 1 - 1).toNat = mi.toNat by omega]
                            exact (rv_up_s).trans etv
                          · by_cases ej : (j : Int) = mi
                            · have ej2 : j = mi.toNat := by omega
                              subst ej2
                              exact ((rv_up_s).trans etv).trans (if_pos rfl).symm
                            · exact ((rv_up_n (by omega)).trans ((q1 j (by omega)).trans (hP j (by omega)))).trans (if_neg (by omega)).symm
                          · exact rv_up_s
                          · have g3 := g2 q (by omega)
                            rw [em, show 3 * (mi.toNat + 1) + q = 3 * mi.toNat + 3 + q by omega, g3, hq3 q (by omega)]
                            have h2 := hL q hq
                            unfold cs_lk
                            by_cases eq : q = ni.toNat
                            · rw [if_pos eq, if_pos (by omega), ← eq]; omega
                            · rw [if_neg eq, if_neg (by omega)]; omega
                          · have g3 := g2 q hq
                            have gq := cs_gain_9 hr (k := q) (m := mi.toNat) (by omega) (by omega)
                            have hq2 := hH q hq
                            rw [em, show 3 * (mi.toNat + 1) + q = 3 * mi.toNat + 3 + q by omega, g3, hq3 q hq]
                            split <;> omega
                          · exact absurd hr0 (by omega)
                          rw [em] at e2
                          obtain rfl : mj = mi := by omega
                          refine ihn (ni + 1) b2 best2 TR2 CO2 HA3 PL2 M2 _ _ _ (by omega) (by omega) hC3 (fun j hj => (p1 j (by omega)).trans ((rv_up_n (by omega)).trans (q1 j hj))) (fun j hj => (p2 j (by omega)).trans ((rv_up_n (by omega)).trans (q2 j hj))) (fun j hj => (p3 j (by omega)).trans ((g1 j hj).trans (q3 j hj))) (fun z => (p1 _ (by omega)).trans ((rv_up_s).trans (by omega))) (fun z => (p1 _ (by omega)).trans ((rv_up_s).trans (by omega))) hN2 ?_
                          rw [e2, show (ni + 1).toNat = ni.toNat + 1 by omega, cs_node_s, ← ebn]
                        · skip
                          refine w_aln rfl ?_
                          refine w_gr gm rfl (by decide) rfl (hC2.r (br.1)) ?_
                          refine w_iln rfl ?_
                          refine w_ic ?_
                          refine w_iast gr.1 rfl (by decide) (by show (0 : Int) ≤ mi + 1; omega) (by show mi + 1 < ((13 : Nat) : Int); omega) ?_
                          have hC11 := hC2.h5 (j := (mi + 1).toNat) (v := -1) gr
                          refine w_goto ?_
                          have em : (mi + 1).toNat = mi.toNat + 1 := by omega
                          refine ih (mi + 1) (fun j => if j = mi.toNat then cs_code (M0.1 s) ni.toNat else P j) (k + (cs_cost (M0.1 s) a ni.toNat)) ni.toNat (cs_lk (M0.1 s) L ni.toNat mi.toNat) bn bestn _ _ HA2 PL' _ _ _ _ (by omega) (by omega) hC11 hn9 (Or.inr ⟨by omega, ?_⟩) (fun j hj => ?_) ?_ (by omega) (by omega) (fun q hq => ?_) (fun q hq => ?_) (fun hr0 => ?_) hNn (by omega) (fun b2 best2 mj TR2 CO2 HA3 PL2 M2 v2 cb2 sb2 hC3 p1 p2 p3 hN2 e2 ej => ?_)
                          · rw [show (mi + 1 - 1).toNat = mi.toNat by omega]
                            exact ((rv_up_n (by omega)).trans rv_up_s).trans etv
                          · by_cases ej : (j : Int) = mi
                            · have ej2 : j = mi.toNat := by omega
                              subst ej2
                              exact (((rv_up_n (by omega)).trans rv_up_s).trans etv).trans (if_pos rfl).symm
                            · exact ((rv_up_n (by omega)).trans ((rv_up_n (by omega)).trans ((q1 j (by omega)).trans (hP j (by omega))))).trans (if_neg (by omega)).symm
                          · exact rv_up_s
                          · have g3 := g2 q (by omega)
                            rw [em, show 3 * (mi.toNat + 1) + q = 3 * mi.toNat + 3 + q by omega, g3, hq3 q (by omega)]
                            have h2 := hL q hq
                            unfold cs_lk
                            by_cases eq : q = ni.toNat
                            · rw [if_pos eq, if_pos (by omega), ← eq]; omega
                            · rw [if_neg eq, if_neg (by omega)]; omega
                          · have g3 := g2 q hq
                            have gq := cs_gain_9 hr (k := q) (m := mi.toNat) (by omega) (by omega)
                            have hq2 := hH q hq
                            rw [em, show 3 * (mi.toNat + 1) + q = 3 * mi.toNat + 3 + q by omega, g3, hq3 q hq]
                            split <;> omega
                          · exact rv_up_s
                          rw [em] at e2
                          obtain rfl : mj = mi := by omega
                          refine ihn (ni + 1) b2 best2 TR2 CO2 HA3 PL2 M2 _ _ _ (by omega) (by omega) hC3 (fun j hj => (p1 j (by omega)).trans ((rv_up_n (by omega)).trans ((rv_up_n (by omega)).trans (q1 j hj)))) (fun j hj => (p2 j (by omega)).trans ((rv_up_n (by omega)).trans (q2 j hj))) (fun j hj => (p3 j (by omega)).trans ((g1 j hj).trans (q3 j hj))) (fun z => (p1 _ (by omega)).trans (((rv_up_n (by omega)).trans rv_up_s).trans (by omega))) (fun z => (p1 _ (by omega)).trans (((rv_up_n (by omega)).trans rv_up_s).trans (by omega))) hN2 ?_
                          rw [e2, show (ni + 1).toNat = ni.toNat + 1 by omega, cs_node_s, ← ebn]
                      · skip
                        refine w_goto ?_
                        refine ihn (ni + 1) bn bestn _ _ HA' PL' _ _ _ _ (by omega) (by omega) hC8 (fun j hj => (rv_up_n (by omega)).trans (q1 j hj)) (fun j hj => (rv_up_n (by omega)).trans (q2 j hj)) q3 (fun z => rv_up_s.trans (by omega)) (fun z => rv_up_s.trans (by omega)) hNn ?_
                        rw [show (ni + 1).toNat = ni.toNat + 1 by omega, ebn]
                        exact (cs_node_cut ho (by rw [← ebn]; exact hNn.le (by omega) (by omega))).symm
                    · exfalso; omega
                · skip
                  refine w_bp ?_
                  refine w_goto ?_
                  refine w_iast gr.1 rfl (by decide) (by show (0 : Int) ≤ mi; omega) (by show mi < ((13 : Nat) : Int); omega) ?_
                  have hC12 := hC'.h5 (j := mi.toNat) (v := 8) gr
                  refine w_aln rfl ?_
                  refine w_gr gm rfl (by decide) rfl (hC12.r (br.1)) ?_
                  refine w_iln rfl ?_
                  refine w_iald (v := 8) gr.1 rfl (by show (0 : Int) ≤ mi; omega) (by show mi < ((13 : Nat) : Int); omega) ((hC12.2.2.1 _ (by show mi.toNat < 13; omega)).trans rv_up_s) ?_
                  refine w_bp ?_
                  refine w_cmgt (fun c13 => ?_) (fun c13 => ?_)
                  · exfalso; omega
                  · skip
                    refine w_aln rfl ?_
                    refine w_iln rfl ?_
                    refine w_cv (st := []) rfl gm rfl (Nat.le_of_ble_eq_true rfl) (fun kk h => h) (r_X12_canBe (d := d) gr br gm gs m6 hr t1 t3 hC12 (mi := mi) (by omega) (by omega) hb2 ?_)
                    show wz _ _ _ _ _ (.inl (cs_cb (M0.1 s) HA' mi.toNat (cs_t (M0.1 s)) 0) :: _) _ _ _ _
                    rw [ecb]
                    refine w_ifne (fun c14 => ?_) (fun c14 => ?_)
                    · skip
                      refine w_aln rfl ?_
                      refine w_gr gm rfl (by decide) rfl (hC12.r (br.2.1)) ?_
                      refine w_iln rfl ?_
                      refine w_ic ?_
                      refine w_add ⟨by show (-2147483648 : Int) ≤ mi + 1; omega, by show mi + 1 < (2147483648 : Int); omega⟩ ?_
                      refine w_aln rfl ?_
                      refine w_gr gm rfl (by decide) rfl (hC12.r (br.2.1)) ?_
                      refine w_iln rfl ?_
                      refine w_iald (v := k) gr.2.1 rfl (by show (0 : Int) ≤ mi; omega) (by show mi < ((13 : Nat) : Int); omega) ((hC12.2.2.2.1 _ (by show mi.toNat < 13; omega)).trans ek) ?_
                      refine w_aln rfl ?_
                      refine w_iln rfl ?_
                      refine w_aln rfl ?_
                      refine w_gr gm rfl (by decide) rfl (hC12.r (br.1)) ?_
                      refine w_iln rfl ?_
                      refine w_iald (v := 8) gr.1 rfl (by show (0 : Int) ≤ mi; omega) (by show mi < ((13 : Nat) : Int); omega) ((hC12.2.2.1 _ (by show mi.toNat < 13; omega)).trans rv_up_s) ?_
                      have etv : 8 = cs_code (M0.1 s) ni.toNat := by omega
                      refine w_cv (st := [.inl k, .inl (mi + 1), .inr (.inr (some (w 346)))]) rfl gm rfl (Nat.le_of_ble_eq_true rfl) (fun kk h => h) (r_X12_costOf (d := d + 1) gr br gm gs m6 hr t1 t3 hC12 (mi := mi) (to := 8) (a := a) (b := ni.toNat) (by omega) (by omega) ha hn9 (eat.elim Or.inl (fun z => Or.inr ⟨z.1, (rv_up_n (by omega)).trans z.2⟩)) etv ?_)
                      refine w_add ⟨by show (-2147483648 : Int) ≤ k + (cs_cost (M0.1 s) a ni.toNat); omega, by show k + (cs_cost (M0.1 s) a ni.toNat) < (2147483648 : Int); omega⟩ ?_
                      refine w_iast gr.2.1 rfl (by decide) (by show (0 : Int) ≤ mi + 1; omega) (by show mi + 1 < ((13 : Nat) : Int); omega) ?_
                      have hC15 := hC12.h6 (j := (mi + 1).toNat) (v := k + (cs_cost (M0.1 s) a ni.toNat)) gr
                      refine w_aln rfl ?_
                      refine w_gr gm rfl (by decide) rfl (hC15.r (br.2.1)) ?_
                      refine w_iln rfl ?_
                      refine w_ic ?_
                      refine w_add ⟨by show (-2147483648 : Int) ≤ mi + 1; omega, by show mi + 1 < (2147483648 : Int); omega⟩ ?_
                      refine w_iald (v := k + (cs_cost (M0.1 s) a ni.toNat)) gr.2.1 rfl (by show (0 : Int) ≤ mi + 1; omega) (by show mi + 1 < ((13 : Nat) : Int); omega) ((hC15.2.2.2.1 _ (by show (mi + 1).toNat < 13; omega)).trans rv_up_s) ?_
                      refine w_iln rfl ?_
                      refine w_cmlt (fun c16 => ?_) (fun c16 => ?_)
                      · skip
                        refine w_ic ?_
                        refine w_is ?_
                        show wz _ _ _ _ [some (.inr (.inr (some m))), some (.inl (M0.1 s 0)), some (.inl bestn), some (.inl mi), some (.inl 0)] _ _ _ _ _
                        have etr : (rv_up TR' mi.toNat 8) mi.toNat = 8 := rv_up_s
                        refine r_hv (d := d + 1) gr br gm gs m6 hr t1 t3 hC15 (mi := mi) (best := bestn) (tv := 8) (by omega) (by omega) etr hb2 (cs_t (M0.1 s)) 0 HA' _ _ _ (by omega) (by decide) hC15 (fun _ _ => rfl) (fun q hq => absurd hq (by omega)) (fun HA2 M2 v4 cb sb hC2 g1 g2 => ?_)
                        refine w_ii rfl ⟨by show (-2147483648 : Int) ≤ mi + 1; omega, by show mi + 1 < (2147483648 : Int); omega⟩ ?_
                        show wz _ _ _ _ [some (.inr (.inr (some m))), some (.inl (M0.1 s 0)), some (.inl bestn), some (.inl (mi + 1)), v4] _ _ _ _ _
                        refine w_iln rfl ?_
                        refine w_bp ?_
                        refine w_cmge (fun c17 => ?_) (fun c17 => ?_)
                        · skip
                          have em : (mi + 1).toNat = mi.toNat + 1 := by omega
                          refine ih (mi + 1) (fun j => if j = mi.toNat then cs_code (M0.1 s) ni.toNat else P j) (k + (cs_cost (M0.1 s) a ni.toNat)) ni.toNat (cs_lk (M0.1 s) L ni.toNat mi.toNat) bn bestn _ _ HA2 PL' _ _ _ _ (by omega) (by omega) hC2 hn9 (Or.inr ⟨by omega, ?_⟩) (fun j hj => ?_) ?_ (by omega) (by omega) (fun q hq => ?_) (fun q hq => ?_) (fun hr0 => ?_) hNn (by omega) (fun b2 best2 mj TR2 CO2 HA3 PL2 M2 v2 cb2 sb2 hC3 p1 p2 p3 hN2 e2 ej => ?_)
                          · rw [show (mi + 1 - 1).toNat = mi.toNat by omega]
                            exact (rv_up_s).trans etv
                          · by_cases ej : (j : Int) = mi
                            · have ej2 : j = mi.toNat := by omega
                              subst ej2
                              exact ((rv_up_s).trans etv).trans (if_pos rfl).symm
                            · exact ((rv_up_n (by omega)).trans ((q1 j (by omega)).trans (hP j (by omega)))).trans (if_neg (by omega)).symm
                          · exact rv_up_s
                          · have g3 := g2 q (by omega)
                            rw [em, show 3 * (mi.toNat + 1) + q = 3 * mi.toNat + 3 + q by omega, g3, hq3 q (by omega)]
                            have h2 := hL q hq
                            unfold cs_lk
                            by_cases eq : q = ni.toNat
                            · rw [if_pos eq, if_pos (by omega), ← eq]; omega
                            · rw [if_neg eq, if_neg (by omega)]; omega
                          · have g3 := g2 q hq
                            have gq := cs_gain_9 hr (k := q) (m := mi.toNat) (by omega) (by omega)
                            have hq2 := hH q hq
                            rw [em, show 3 * (mi.toNat + 1) + q = 3 * mi.toNat + 3 + q by omega, g3, hq3 q hq]
                            split <;> omega
                          · exact absurd hr0 (by omega)
                          rw [em] at e2
                          obtain rfl : mj = mi := by omega
                          refine ihn (ni + 1) b2 best2 TR2 CO2 HA3 PL2 M2 _ _ _ (by omega) (by omega) hC3 (fun j hj => (p1 j (by omega)).trans ((rv_up_n (by omega)).trans (q1 j hj))) (fun j hj => (p2 j (by omega)).trans ((rv_up_n (by omega)).trans (q2 j hj))) (fun j hj => (p3 j (by omega)).trans ((g1 j hj).trans (q3 j hj))) (fun z => (p1 _ (by omega)).trans ((rv_up_s).trans (by omega))) (fun z => (p1 _ (by omega)).trans ((rv_up_s).trans (by omega))) hN2 ?_
                          rw [e2, show (ni + 1).toNat = ni.toNat + 1 by omega, cs_node_s, ← ebn]
                        · skip
                          refine w_aln rfl ?_
                          refine w_gr gm rfl (by decide) rfl (hC2.r (br.1)) ?_
                          refine w_iln rfl ?_
                          refine w_ic ?_
                          refine w_iast gr.1 rfl (by decide) (by show (0 : Int) ≤ mi + 1; omega) (by show mi + 1 < ((13 : Nat) : Int); omega) ?_
                          have hC18 := hC2.h5 (j := (mi + 1).toNat) (v := -1) gr
                          refine w_goto ?_
                          have em : (mi + 1).toNat = mi.toNat + 1 := by omega
                          refine ih (mi + 1) (fun j => if j = mi.toNat then cs_code (M0.1 s) ni.toNat else P j) (k + (cs_cost (M0.1 s) a ni.toNat)) ni.toNat (cs_lk (M0.1 s) L ni.toNat mi.toNat) bn bestn _ _ HA2 PL' _ _ _ _ (by omega) (by omega) hC18 hn9 (Or.inr ⟨by omega, ?_⟩) (fun j hj => ?_) ?_ (by omega) (by omega) (fun q hq => ?_) (fun q hq => ?_) (fun hr0 => ?_) hNn (by omega) (fun b2 best2 mj TR2 CO2 HA3 PL2 M2 v2 cb2 sb2 hC3 p1 p2 p3 hN2 e2 ej => ?_)
                          · rw [show (mi + 1 - 1).toNat = mi.toNat by omega]
                            exact ((rv_up_n (by omega)).trans rv_up_s).trans etv
                          · by_cases ej : (j : Int) = mi
                            · have ej2 : j = mi.toNat := by omega
                              subst ej2
                              exact (((rv_up_n (by omega)).trans rv_up_s).trans etv).trans (if_pos rfl).symm
                            · exact ((rv_up_n (by omega)).trans ((rv_up_n (by omega)).trans ((q1 j (by omega)).trans (hP j (by omega))))).trans (if_neg (by omega)).symm
                          · exact rv_up_s
                          · have g3 := g2 q (by omega)
                            rw [em, show 3 * (mi.toNat + 1) + q = 3 * mi.toNat + 3 + q by omega, g3, hq3 q (by omega)]
                            have h2 := hL q hq
                            unfold cs_lk
                            by_cases eq : q = ni.toNat
                            · rw [if_pos eq, if_pos (by omega), ← eq]; omega
                            · rw [if_neg eq, if_neg (by omega)]; omega
                          · have g3 := g2 q hq
                            have gq := cs_gain_9 hr (k := q) (m := mi.toNat) (by omega) (by omega)
                            have hq2 := hH q hq
                            rw [em, show 3 * (mi.toNat + 1) + q = 3 * mi.toNat + 3 + q by omega, g3, hq3 q hq]
                            split <;> omega
                          · exact rv_up_s
                          rw [em] at e2
                          obtain rfl : mj = mi := by omega
                          refine ihn (ni + 1) b2 best2 TR2 CO2 HA3 PL2 M2 _ _ _ (by omega) (by omega) hC3 (fun j hj => (p1 j (by omega)).trans ((rv_up_n (by omega)).trans ((rv_up_n (by omega)).trans (q1 j hj)))) (fun j hj => (p2 j (by omega)).trans ((rv_up_n (by omega)).trans (q2 j hj))) (fun j hj => (p3 j (by omega)).trans ((g1 j hj).trans (q3 j hj))) (fun z => (p1 _ (by omega)).trans (((rv_up_n (by omega)).trans rv_up_s).trans (by omega))) (fun z => (p1 _ (by omega)).trans (((rv_up_n (by omega)).trans rv_up_s).trans (by omega))) hN2 ?_
                          rw [e2, show (ni + 1).toNat = ni.toNat + 1 by omega, cs_node_s, ← ebn]
                      · skip
                        refine w_goto ?_
                        refine ihn (ni + 1) bn bestn _ _ HA' PL' _ _ _ _ (by omega) (by omega) hC15 (fun j hj => (rv_up_n (by omega)).trans (q1 j hj)) (fun j hj => (rv_up_n (by omega)).trans (q2 j hj)) q3 (fun z => rv_up_s.trans (by omega)) (fun z => rv_up_s.trans (by omega)) hNn ?_
                        rw [show (ni + 1).toNat = ni.toNat + 1 by omega, ebn]
                        exact (cs_node_cut ho (by rw [← ebn]; exact hNn.le (by omega) (by omega))).symm
                    · exfalso; omega
              · exfalso; omega
            · exfalso; omega
      refine key (cs_t (M0.1 s) + 1) 0 b best TR CO HA PL M v4 cb sb (by omega) (by decide) hC (fun _ _ => rfl) (fun _ _ => rfl) (fun _ _ => rfl) (fun _ => by omega) (fun z => by omega) hN ?_
      rw [show (0 : Int).toNat = 0 from rfl, cs_node_0]
theorem r_ch2 {G : mj_G} {M0 : mj_M} {m s : Nat} {w : Nat → Nat} {Q : mj_P} {d : Nat} (gr : cp_GR G w) (br : cp_BR M0 w m) (gm : G m = (1012, 0)) (gs : G s = (51100, 537)) (m6 : M0.2.2 m 6 = some s) (hr : rv_r4 (M0.1 s) 0) (t1 : 1 ≤ M0.1 s 0) (t3 : M0.1 s 0 ≤ 3) {M : mj_M} {TR CO HA PL : Nat → Int} (hC : cr_C w M0 TR CO HA PL M) {P0 : Nat → Int} {b : cs_R} {best mj : Int} {v4 : Option mj_V} {cb sb : Nat} (hmj : mj + 1 = 0) (hN : cs_N 1000000000 P0 b best PL) (hn : b = none → (∀ j, j < 12 → PL j = P0 j) → Q (some (.inl (-1))) G M) (hs : ∀ c P, b = some (c, P) → 0 ≤ c → c < 1000000000 → (∀ j, j < 12 → PL j = P j) → Q (some (.inl c)) G (mj_p0 (mj_p0 M m 39 1) m 40 (M0.1 m 25))) : wz (d + 3) mt_X12_cheapest.2.2.2.2.1 Q (mt_X12_cheapest.2.2.2.2.1.drop 41) [some (.inr (.inr (some m))), some (.inl (M0.1 s 0)), some (.inl best), some (.inl mj), v4] [] G M cb sb := by
  have bb := hN.b (by decide)
  obtain rfl : mj = -1 := by omega
  refine w_iln rfl ?_
  refine w_iflt (fun c1 => ?_) (fun c1 => ?_)
  · skip
    refine w_iln rfl ?_
    refine w_ldcw ?_
    refine w_cmne (fun c2 => ?_) (fun c2 => ?_)
    · skip
      refine w_aln rfl ?_
      refine w_ic ?_
      refine w_pi gm rfl (by decide) rfl (fun _ => by omega) ?_
      refine w_aln rfl ?_
      refine w_aln rfl ?_
      refine w_gi gm rfl (by decide) rfl ((hn_n (Or.inr (by decide))).trans (hC.mj gr gm)) ?_
      refine w_pi gm rfl (by decide) rfl (fun q => by cases q) ?_
      refine w_iln rfl ?_
      cases b with
      | none => have q : best = 1000000000 := hN.1; omega
      | some x =>
        obtain ⟨e1, e2, e3, e4⟩ := hN
        subst e1
        exact w_iret (fun q => by cases q) (hs x.1 x.2 rfl e2 e3 e4)
    · skip
      refine w_ic ?_
      have eb : b = none := by
        cases b with
        | none => rfl
        | some x => obtain ⟨-, -, q, -⟩ := hN; omega
      subst eb
      exact w_iret (fun q => by cases q) (hn rfl hN.2)
  · exfalso; omega
/-- what the reference's cheapest tells, one to three towns -/
def cs_L0 (H : Nat → Int) : Nat → Int := fun q => H (8 + 9 * q)
noncomputable def cs_A (H : Nat → Int) : cs_R := cs_S H 12 0 (cs_t H) (cs_L0 H)
theorem r_ch1 {G : mj_G} {M0 : mj_M} {m s : Nat} {w : Nat → Nat} {Q : mj_P} {d : Nat} (gr : cp_GR G w) (br : cp_BR M0 w m) (gm : G m = (1012, 0)) (gs : G s = (51100, 537)) (m6 : M0.2.2 m 6 = some s) (hr : rv_r4 (M0.1 s) 0) (t1 : 1 ≤ M0.1 s 0) (t3 : M0.1 s 0 ≤ 3) (hn : cs_A (M0.1 s) = none → ∀ M' TR CO HA PL, cr_C w M0 TR CO HA PL M' → (∀ j, j < 12 → PL j = M0.1 (w 348) j) → Q (some (.inl (-1))) G M') (hs : ∀ c P, cs_A (M0.1 s) = some (c, P) → 0 ≤ c → c < 1000000000 → ∀ M' TR CO HA PL, cr_C w M0 TR CO HA PL M' → (∀ j, j < 12 → PL j = P j) → Q (some (.inl c)) G (mj_p0 (mj_p0 M' m 39 1) m 40 (M0.1 m 25))) {cb sb : Nat} : wz (d + 3) mt_X12_cheapest.2.2.2.2.1 Q (mt_X12_cheapest.2.2.2.2.1.drop 15) [some (.inr (.inr (some m))), some (.inl (M0.1 s 0)), none, none, none] [] G M0 cb sb := by
  have et := cs_te hr
  have b1 := cs_r1 hr
  have hC := cr_C.re (w := w) (M := M0)
  obtain ⟨TR, hTR⟩ : ∃ F, F = M0.1 (w 345) := ⟨_, rfl⟩
  obtain ⟨CO, hCO⟩ : ∃ F, F = M0.1 (w 346) := ⟨_, rfl⟩
  obtain ⟨HA, hHA⟩ : ∃ F, F = M0.1 (w 347) := ⟨_, rfl⟩
  obtain ⟨PL, hPL⟩ : ∃ F, F = M0.1 (w 348) := ⟨_, rfl⟩
  rw [← hTR, ← hCO, ← hHA, ← hPL] at hC
  rw [← hPL] at hn
  refine w_ldcw ?_
  refine w_isn ?_
  show wz _ _ _ _ [some (.inr (.inr (some m))), some (.inl (M0.1 s 0)), some (.inl 1000000000), none, none] _ _ _ _ _
  refine w_aln rfl ?_
  refine w_gr gm rfl (by decide) rfl (hC.r (br.2.1)) ?_
  refine w_ic ?_
  refine w_ic ?_
  refine w_iast gr.2.1 rfl (by decide) (by show (0 : Int) ≤ 0; omega) (by show 0 < ((13 : Nat) : Int); omega) ?_
  have hC1 := hC.h6 (j := (0 : Int).toNat) (v := 0) gr
  refine w_ic ?_
  refine w_isn ?_
  show wz _ _ _ _ [some (.inr (.inr (some m))), some (.inl (M0.1 s 0)), some (.inl 1000000000), some (.inl 0), none] _ _ _ _ _
  refine w_iln rfl ?_
  refine w_ic ?_
  refine w_cmge (fun c2 => ?_) (fun c2 => ?_)
  · exfalso; omega
  · skip
    refine w_aln rfl ?_
    refine w_gr gm rfl (by decide) rfl (hC1.r (br.2.2.1)) ?_
    refine w_iln rfl ?_
    refine w_ic ?_
    refine w_iast gr.2.2.1 rfl (by decide) (by show (0 : Int) ≤ 0; omega) (by show 0 < ((39 : Nat) : Int); omega) ?_
    have hC3 := hC1.h7 (j := (0 : Int).toNat) (v := 0) gr
    refine w_ii rfl ⟨by show (-2147483648 : Int) ≤ 1; omega, by show 1 < (2147483648 : Int); omega⟩ ?_
    show wz _ _ _ _ [some (.inr (.inr (some m))), some (.inl (M0.1 s 0)), some (.inl 1000000000), some (.inl 1), none] _ _ _ _ _
    refine w_goto ?_
    refine w_iln rfl ?_
    refine w_ic ?_
    refine w_cmge (fun c4 => ?_) (fun c4 => ?_)
    · exfalso; omega
    · skip
      refine w_aln rfl ?_
      refine w_gr gm rfl (by decide) rfl (hC3.r (br.2.2.1)) ?_
      refine w_iln rfl ?_
      refine w_ic ?_
      refine w_iast gr.2.2.1 rfl (by decide) (by show (0 : Int) ≤ 1; omega) (by show 1 < ((39 : Nat) : Int); omega) ?_
      have hC5 := hC3.h7 (j := (1 : Int).toNat) (v := 0) gr
      refine w_ii rfl ⟨by show (-2147483648 : Int) ≤ 2; omega, by show 2 < (2147483648 : Int); omega⟩ ?_
      show wz _ _ _ _ [some (.inr (.inr (some m))), some (.inl (M0.1 s 0)), some (.inl 1000000000), some (.inl 2), none] _ _ _ _ _
      refine w_goto ?_
      refine w_iln rfl ?_
      refine w_ic ?_
      refine w_cmge (fun c6 => ?_) (fun c6 => ?_)
      · exfalso; omega
      · skip
        refine w_aln rfl ?_
        refine w_gr gm rfl (by decide) rfl (hC5.r (br.2.2.1)) ?_
        refine w_iln rfl ?_
        refine w_ic ?_
        refine w_iast gr.2.2.1 rfl (by decide) (by show (0 : Int) ≤ 2; omega) (by show 2 < ((39 : Nat) : Int); omega) ?_
        have hC7 := hC5.h7 (j := (2 : Int).toNat) (v := 0) gr
        refine w_ii rfl ⟨by show (-2147483648 : Int) ≤ 3; omega, by show 3 < (2147483648 : Int); omega⟩ ?_
        show wz _ _ _ _ [some (.inr (.inr (some m))), some (.inl (M0.1 s 0)), some (.inl 1000000000), some (.inl 3), none] _ _ _ _ _
        refine w_goto ?_
        refine w_iln rfl ?_
        refine w_ic ?_
        refine w_cmge (fun c8 => ?_) (fun c8 => ?_)
        · skip
          refine w_ic ?_
          refine w_isn ?_
          show wz _ _ _ _ [some (.inr (.inr (some m))), some (.inl (M0.1 s 0)), some (.inl 1000000000), some (.inl 0), none] _ _ _ _ _
          refine w_aln rfl ?_
          refine w_gr gm rfl (by decide) rfl (hC7.r (br.1)) ?_
          refine w_ic ?_
          refine w_ic ?_
          refine w_iast gr.1 rfl (by decide) (by show (0 : Int) ≤ 0; omega) (by show 0 < ((13 : Nat) : Int); omega) ?_
          have hC9 := hC7.h5 (j := (0 : Int).toNat) (v := -1) gr
          refine r_go (d := d) (P0 := PL) gr br gm gs m6 hr t1 t3 12 0 (fun _ => 0) 0 (cs_t (M0.1 s)) (cs_L0 (M0.1 s)) none 1000000000 _ _ _ PL _ _ _ _ (by decide) (by decide) hC9 (Nat.le_refl _) (Or.inl ⟨rfl, rfl⟩) (fun j hj => absurd hj (by omega)) rv_up_s (by decide) (by decide) (fun q hq => ?_) (fun q hq => ?_) (fun _ => rv_up_s) ⟨rfl, fun _ _ => rfl⟩ (by decide) (fun b2 best2 mj TR2 CO2 HA2 PL2 M2 v2 cb2 sb2 hC2 p1 p2 p3 hN2 e2 ej => ?_)
          · have hz : (rv_up (rv_up (rv_up HA ((0 : Int).toNat) 0) ((1 : Int).toNat) 0) ((2 : Int).toNat) 0) (3 * (0 : Int).toNat + q) = 0 := by
              rcases (by omega : q = 0 ∨ q = 1 ∨ q = 2) with z | z | z <;> subst z
              · exact (rv_up_n (by decide)).trans ((rv_up_n (by decide)).trans rv_up_s)
              · exact (rv_up_n (by decide)).trans rv_up_s
              · exact rv_up_s
            rw [hz]; show M0.1 s (8 + 9 * q) = M0.1 s (8 + 9 * q) - 0; omega
          · have hz : (rv_up (rv_up (rv_up HA ((0 : Int).toNat) 0) ((1 : Int).toNat) 0) ((2 : Int).toNat) 0) (3 * (0 : Int).toNat + q) = 0 := by
              rcases (by omega : q = 0 ∨ q = 1 ∨ q = 2) with z | z | z <;> subst z
              · exact (rv_up_n (by decide)).trans ((rv_up_n (by decide)).trans rv_up_s)
              · exact (rv_up_n (by decide)).trans rv_up_s
              · exact rv_up_s
            rw [hz]; decide
          have eA : b2 = cs_A (M0.1 s) := by
            rw [e2]
            show cs_min none (cs_pre 0 (fun _ => 0) 0 (cs_A (M0.1 s))) = _
            cases cs_A (M0.1 s) with
            | none => rfl
            | some x =>
              show some (0 + x.1, _) = some x
              rw [Int.zero_add]; rfl
          refine r_ch2 (d := d) gr br gm gs m6 hr t1 t3 hC2 ej hN2 (fun e hp => ?_) (fun c P e c0 c9 hp => ?_)
          · exact hn (eA.symm.trans e) M2 TR2 CO2 HA2 PL2 hC2 hp
          · exact hs c P (eA.symm.trans e) c0 c9 M2 TR2 CO2 HA2 PL2 hC2 hp
        · exfalso; omega
