section
/-! ===== the cheapest letting: the search of the reference (laid by a program) ===== -/
theorem cs_cb_cg {H HA HA' : Nat → Int} {m t : Nat} (h : ∀ q, q < t → HA' (3 * m + q) = HA (3 * m + q)) : ∀ n k, k + n ≤ t → cs_cb H HA' m n k = cs_cb H HA m n k
  | 0, _, _ => rfl
  | n + 1, k, e => by
    show (if HA' (3 * m + k) + _ < _ then (0 : Int) else cs_cb H HA' m n (k + 1)) = (if HA (3 * m + k) + _ < _ then (0 : Int) else cs_cb H HA m n (k + 1))
    rw [h k (by omega), cs_cb_cg h n (k + 1) (by omega)]
def cr_at (H TR : Nat → Int) (mi : Int) (a : Nat) : Prop := (mi = 0 ∧ a = cs_t H) ∨ (1 ≤ mi ∧ TR (mi - 1).toNat = cs_code H a)
theorem cs_code_c {H : Nat → Int} {a : Nat} (ha : a ≤ cs_t H) : (a = cs_t H ∧ cs_code H a = 8) ∨ (a < cs_t H ∧ cs_code H a = a) := by
  unfold cs_code; split <;> omega
theorem cs_node_cut {H : Nat → Int} {b : cs_R} {k : Int} {P : Nat → Int} {r m a : Nat} {L : Nat → Int} {n : Nat} (ho : cs_ok H) (hb : cs_le (cs_node H b k P r m a L n) (k + cs_cost H a n)) : cs_node H b k P r m a L (n + 1) = cs_node H b k P r m a L n := by
  rw [cs_node_s]
  exact cs_cut (fun c g => cs_S_0 ho _ _ _ _ _ g) hb
theorem cs_node_n {H : Nat → Int} {b : cs_R} {k : Int} {P : Nat → Int} {r m a : Nat} {L : Nat → Int} (h : cs_S H (r + 1) m a L = none) : b = cs_min b (cs_pre k P m (cs_S H (r + 1) m a L)) := by
  rw [h]; exact (cs_min_none b).symm
/-- the end of a way -/
theorem cs_fin {H P0 : Nat → Int} {b : cs_R} {k best : Int} {P PL PL2 : Nat → Int} {a : Nat} {L : Nat → Int} (hN : cs_N 1000000000 P0 b best PL) (hk : k < best) (hm : cs_met H L) (hP : ∀ j, j < 12 → PL2 j = P j) (k0 : 0 ≤ k) : cs_N 1000000000 P0 (cs_min b (cs_pre k P 12 (cs_S H 0 12 a L))) k PL2 := by
  have hb := hN.b (by decide)
  have e : cs_S H 0 12 a L = some (0, fun _ => 0) := if_pos hm
  rw [e]
  show cs_N 1000000000 P0 (cs_min b (some (k + 0, fun j => if j < 12 then P j else 0))) k PL2
  rw [hN.tk _ rfl (show k + 0 < best by omega)]
  exact ⟨show k + 0 = k by omega, k0, by omega, fun j hj => (hP j hj).trans (if_pos hj).symm⟩
theorem cs_fin_n {H : Nat → Int} {b : cs_R} {k : Int} {P : Nat → Int} {a : Nat} {L : Nat → Int} (hm : ¬ cs_met H L) : b = cs_min b (cs_pre k P 12 (cs_S H 0 12 a L)) := by
  have e : cs_S H 0 12 a L = none := if_neg hm
  rw [e]; exact (cs_min_none b).symm
theorem r_go {G : mj_G} {M0 : mj_M} {m s : Nat} {w : Nat → Nat} {Q : mj_P} {d : Nat} (gr : cp_GR G w) (br : cp_BR M0 w m) (gm : G m = (1012, 0)) (gs : G s = (51100, 537)) (m6 : M0.2.2 m 6 = some s) (hr : rv_r4 (M0.1 s) 0) (t1 : 1 ≤ M0.1 s 0) (t3 : M0.1 s 0 ≤ 3) {P0 : Nat → Int} : ∀ (r : Nat) (mi : Int) (P : Nat → Int) (k : Int) (a : Nat) (L : Nat → Int) (b : cs_R) (best : Int) (TR CO HA PL : Nat → Int) (M : mj_M) (v4 : Option mj_V) (cb sb : Nat), mi + r = 12 → 0 ≤ mi → cr_C w M0 TR CO HA PL M → a ≤ cs_t (M0.1 s) → cr_at (M0.1 s) TR mi a → (∀ j : Nat, (j : Int) < mi → TR j = P j) → CO mi.toNat = k → 0 ≤ k → k ≤ 1296 * mi → (∀ q, q < cs_t (M0.1 s) → L q = M0.1 s (8 + 9 * q) - HA (3 * mi.toNat + q)) → (∀ q : Nat, (q : Int) < M0.1 s 0 → 0 ≤ HA (3 * mi.toNat + q) ∧ HA (3 * mi.toNat + q) ≤ 999 * mi) → (0 < r → TR mi.toNat = -1) → cs_N 1000000000 P0 b best PL → k < best → (∀ (b' : cs_R) (best' mj : Int) (TR' CO' HA' PL' : Nat → Int) (M' : mj_M) (v4' : Option mj_V) (cb sb : Nat), cr_C w M0 TR' CO' HA' PL' M' → (∀ j : Nat, (j : Int) < mi → TR' j = TR j) → (∀ j : Nat, (j : Int) ≤ mi → CO' j = CO j) → (∀ j : Nat, (j : Int) < 3 * mi + 3 → HA' j = HA j) → cs_N 1000000000 P0 b' best' PL' → b' = cs_min b (cs_pre k P mi.toNat (cs_S (M0.1 s) r mi.toNat a L)) → mj + 1 = mi → wz (d + 3) mt_X12_cheapest.2.2.2.2.1 Q (mt_X12_cheapest.2.2.2.2.1.drop 41) [some (.inr (.inr (some m))), some (.inl (M0.1 s 0)), some (.inl best'), some (.inl mj), v4'] [] G M' cb sb) → wz (d + 3) mt_X12_cheapest.2.2.2.2.1 Q (mt_X12_cheapest.2.2.2.2.1.drop 41) [some (.inr (.inr (some m))), some (.inl (M0.1 s 0)), some (.inl best), some (.inl mi), v4] [] G M cb sb := by
  have et := cs_te hr
  have b1 := cs_r1 hr
  have ho := cs_oke hr
  intro r
  induction r with
  | zero =>
    intro mi P k a L b best TR CO HA PL M v4 cb sb e m0 hC ha hat hP hk k0 kb hL hH ht hN hlt h
    obtain rfl : mi = 12 := by omega
    have bb := hN.b (by decide)
    have ek : CO 12 = k := hk
    have hcb := cs_cb_s (H := M0.1 s) (HA := HA) (m := 12) (cs_t (M0.1 s)) 0
    obtain ⟨c0, hc0⟩ : ∃ z, z = cs_cb (M0.1 s) HA 12 (cs_t (M0.1 s)) 0 := ⟨_, rfl⟩
    rw [← hc0] at hcb
    have c01 : c0 = 1 ∨ c0 = 0 := hcb.elim (fun q => Or.inl q.1) (fun q => Or.inr q.1)
    refine w_iln rfl ?_
    refine w_iflt (fun c1 => ?_) (fun c1 => ?_)
    · exfalso; omega
    · skip
      refine w_iln rfl ?_
      refine w_bp ?_
      refine w_cmne (fun c2 => ?_) (fun c2 => ?_)
      · exfalso; omega
      · skip
        refine w_aln rfl ?_
        refine w_gr gm rfl (by decide) rfl (hC.r (br.2.1)) ?_
        refine w_iln rfl ?_
        refine w_iald (v := k) gr.2.1 rfl (by show (0 : Int) ≤ 12; omega) (by show 12 < ((13 : Nat) : Int); omega) ((hC.2.2.2.1 _ (by decide)).trans ek) ?_
        refine w_iln rfl ?_
        refine w_cmge (fun c3 => ?_) (fun c3 => ?_)
        · exfalso; omega
        · skip
          refine w_aln rfl ?_
          refine w_iln rfl ?_
          refine w_cv (st := []) rfl gm rfl (Nat.le_of_ble_eq_true rfl) (fun kk h => h) (r_X12_canBe (d := d) gr br gm gs m6 hr t1 t3 hC (mi := 12) (by decide) (by decide) (fun q hq => ⟨(hH q hq).1, by have := (hH q hq).2; omega⟩) ?_)
          show wz _ _ _ _ _ (.inl (cs_cb (M0.1 s) HA 12 (cs_t (M0.1 s)) 0) :: _) _ _ _ _
          rw [← hc0]
          refine w_ifeq (fun c4 => ?_) (fun c4 => ?_)
          · skip
            refine w_ii rfl ⟨by show (-2147483648 : Int) ≤ 11; omega, by show 11 < (2147483648 : Int); omega⟩ ?_
            show wz _ _ _ _ [some (.inr (.inr (some m))), some (.inl (M0.1 s 0)), some (.inl best), some (.inl 11), v4] _ _ _ _ _
            refine w_goto ?_
            refine h b best _ TR CO HA PL M _ _ _ hC (fun _ _ => rfl) (fun _ _ => rfl) (fun _ _ => rfl) hN (cs_fin_n (fun hm => ?_)) (by omega)
            obtain ⟨-, q, -, hq, hlt2⟩ := hcb.resolve_left (fun z => by omega)
            have h1 := hm q (by omega)
            have h2 := hL q (by omega)
            have h3 : cs_all (M0.1 s) q (12 - 12) 12 = 0 := rfl
            have h4 : HA (3 * (12 : Int).toNat + q) = HA (3 * 12 + q) := rfl
            omega
          · skip
            refine w_aln rfl ?_
            refine w_gr gm rfl (by decide) rfl (hC.r (br.2.1)) ?_
            refine w_iln rfl ?_
            refine w_iald (v := k) gr.2.1 rfl (by show (0 : Int) ≤ 12; omega) (by show 12 < ((13 : Nat) : Int); omega) ((hC.2.2.2.1 _ (by decide)).trans ek) ?_
            refine w_isn ?_
            show wz _ _ _ _ [some (.inr (.inr (some m))), some (.inl (M0.1 s 0)), some (.inl k), some (.inl 12), v4] _ _ _ _ _
            refine w_ic ?_
            refine w_is ?_
            show wz _ _ _ _ [some (.inr (.inr (some m))), some (.inl (M0.1 s 0)), some (.inl k), some (.inl 12), some (.inl 0)] _ _ _ _ _
            have hmet : cs_met (M0.1 s) L := fun q hq => by
              obtain ⟨-, h1⟩ := hcb.resolve_right (fun z => by omega)
              have h1 := h1 q (Nat.zero_le _) (by omega)
              have h2 := hL q hq
              have h3 : cs_all (M0.1 s) q (12 - 12) 12 = 0 := rfl
              have h4 : HA (3 * (12 : Int).toNat + q) = HA (3 * 12 + q) := rfl
              omega
            refine r_pc (d := d + 1) gr br gm gs m6 hr t1 t3 hC 12 0 PL _ _ _ rfl (by decide) hC (fun j hj => absurd hj (by omega)) (fun PL2 M2 v4 cb sb hC2 hp2 => ?_)
            have hN2 := cs_fin (a := a) (L := L) hN hlt hmet (fun j hj => (hp2 j hj).trans (hP j (by omega))) k0
            refine w_ii rfl ⟨by show (-2147483648 : Int) ≤ 11; omega, by show 11 < (2147483648 : Int); omega⟩ ?_
            show wz _ _ _ _ [some (.inr (.inr (some m))), some (.inl (M0.1 s 0)), some (.inl k), some (.inl 11), v4] _ _ _ _ _
            refine w_goto ?_
            exact h _ k _ TR CO HA PL2 M2 _ _ _ hC2 (fun _ _ => rfl) (fun _ _ => rfl) (fun _ _ => rfl) hN2 rfl (by omega)
  | succ r ih =>
    intro mi P k a L b best TR CO HA PL M v4 cb sb e m0 hC ha hat hP hk k0 kb hL hH ht hN hlt h
    have ht1 := ht (by omega)
    have hcb := cs_cb_s (H := M0.1 s) (HA := HA) (m := mi.toNat) (cs_t (M0.1 s)) 0
    have hr12 : 12 - mi.toNat = r + 1 := by omega
    rw [hr12] at hcb
    obtain ⟨c0, hc0⟩ : ∃ z, z = cs_cb (M0.1 s) HA mi.toNat (cs_t (M0.1 s)) 0 := ⟨_, rfl⟩
    rw [← hc0] at hcb
    by_cases hcan : c0 = 0
    · have bb := hN.b (by decide)
      have hnone : cs_S (M0.1 s) (r + 1) mi.toNat a L = none := by
        obtain ⟨-, q, -, hq, hlt2⟩ := hcb.resolve_left (fun z => by omega)
        exact cs_can_n (k := q) (by omega) (by rw [hL q (by omega)]; omega)
      refine w_iln rfl ?_
      refine w_iflt (fun c1 => ?_) (fun c1 => ?_)
      · exfalso; omega
      · skip
        refine w_iln rfl ?_
        refine w_bp ?_
        refine w_cmne (fun c2 => ?_) (fun c2 => ?_)
        · skip
          refine w_aln rfl ?_
          refine w_gr gm rfl (by decide) rfl (hC.r (br.1)) ?_
          refine w_iln rfl ?_
          refine w_aln rfl ?_
          refine w_gr gm rfl (by decide) rfl (hC.r (br.1)) ?_
          refine w_iln rfl ?_
          refine w_iald (v := (TR mi.toNat)) gr.1 rfl (by show (0 : Int) ≤ mi; omega) (by show mi < ((13 : Nat) : Int); omega) (hC.2.2.1 _ (by show mi.toNat < 13; omega)) ?_
          refine w_bp ?_
          refine w_cmne (fun c3 => ?_) (fun c3 => ?_)
          · skip
            refine w_aln rfl ?_
            refine w_gr gm rfl (by decide) rfl (hC.r (br.1)) ?_
            refine w_iln rfl ?_
            refine w_iald (v := (TR mi.toNat)) gr.1 rfl (by show (0 : Int) ≤ mi; omega) (by show mi < ((13 : Nat) : Int); omega) (hC.2.2.1 _ (by show mi.toNat < 13; omega)) ?_
            refine w_ic ?_
            refine w_add ⟨by show (-2147483648 : Int) ≤ (TR mi.toNat) + 1; omega, by show (TR mi.toNat) + 1 < (2147483648 : Int); omega⟩ ?_
            refine w_iln rfl ?_
            refine w_cmne (fun c4 => ?_) (fun c4 => ?_)
            · skip
              refine w_aln rfl ?_
              refine w_gr gm rfl (by decide) rfl (hC.r (br.1)) ?_
              refine w_iln rfl ?_
              refine w_iald (v := (TR mi.toNat)) gr.1 rfl (by show (0 : Int) ≤ mi; omega) (by show mi < ((13 : Nat) : Int); omega) (hC.2.2.1 _ (by show mi.toNat < 13; omega)) ?_
              refine w_ic ?_
              refine w_add ⟨by show (-2147483648 : Int) ≤ (TR mi.toNat) + 1; omega, by show (TR mi.toNat) + 1 < (2147483648 : Int); omega⟩ ?_
              refine w_iast gr.1 rfl (by decide) (by show (0 : Int) ≤ mi; omega) (by show mi < ((13 : Nat) : Int); omega) ?_
              have hC5 := hC.h5 (j := mi.toNat) (v := (TR mi.toNat) + 1) gr
              refine w_aln rfl ?_
              refine w_gr gm rfl (by decide) rfl (hC5.r (br.1)) ?_
              refine w_iln rfl ?_
              refine w_iald (v := (TR mi.toNat) + 1) gr.1 rfl (by show (0 : Int) ≤ mi; omega) (by show mi < ((13 : Nat) : Int); omega) ((hC5.2.2.1 _ (by show mi.toNat < 13; omega)).trans rv_up_s) ?_
              refine w_bp ?_
              refine w_cmgt (fun c6 => ?_) (fun c6 => ?_)
              · exfalso; omega
              · skip
                refine w_aln rfl ?_
                refine w_iln rfl ?_
                refine w_cv (st := []) rfl gm rfl (Nat.le_of_ble_eq_true rfl) (fun kk h => h) (r_X12_canBe (d := d) gr br gm gs m6 hr t1 t3 hC5 (mi := mi) (by omega) (by omega) (fun q hq => ⟨(hH q hq).1, by have := (hH q hq).2; omega⟩) ?_)
                show wz _ _ _ _ _ (.inl (cs_cb (M0.1 s) HA mi.toNat (cs_t (M0.1 s)) 0) :: _) _ _ _ _
                rw [← hc0, hcan]
                refine w_ifne (fun c7 => ?_) (fun c7 => ?_)
                · exfalso; omega
                · skip
                  refine w_ii rfl ⟨by show (-2147483648 : Int) ≤ mi + (-1); omega, by show mi + (-1) < (2147483648 : Int); omega⟩ ?_
                  show wz _ _ _ _ [some (.inr (.inr (some m))), some (.inl (M0.1 s 0)), some (.inl best), some (.inl (mi + (-1))), v4] _ _ _ _ _
                  refine w_goto ?_
                  exact h b best _ _ CO HA PL _ _ _ _ hC5 (fun j hj => rv_up_n (by omega)) (fun _ _ => rfl) (fun _ _ => rfl) hN (cs_node_n hnone) (by omega)
            · exfalso; omega
          · exfalso; omega
        · exfalso; omega
    · have hc1 : c0 = 1 := hcb.elim (fun q => q.1) (fun q => absurd q.1 hcan)
      have key : ∀ (n : Nat) (ni : Int) (bn : cs_R) (bestn : Int) (TR' CO' HA' PL' : Nat → Int) (M' : mj_M) (v4 : Option mj_V) (cb sb : Nat), ni + n = M0.1 s 0 + 1 → 0 ≤ ni → cr_C w M0 TR' CO' HA' PL' M' → (∀ j : Nat, (j : Int) < mi → TR' j = TR j) → (∀ j : Nat, (j : Int) ≤ mi → CO' j = CO j) → (∀ j : Nat, (j : Int) < 3 * mi + 3 → HA' j = HA j) → (ni ≤ M0.1 s 0 → TR' mi.toNat = ni - 1) → (ni = M0.1 s 0 + 1 → TR' mi.toNat = 8) → cs_N 1000000000 P0 bn bestn PL' → bn = cs_node (M0.1 s) b k P r mi.toNat a L ni.toNat → wz (d + 3) mt_X12_cheapest.2.2.2.2.1 Q (mt_X12_cheapest.2.2.2.2.1.drop 41) [some (.inr (.inr (some m))), some (.inl (M0.1 s 0)), some (.inl bestn), some (.inl mi), v4] [] G M' cb sb := by
        intro n
        induction n with
        | zero =>
          intro ni bn bestn TR' CO' HA' PL' M' v4 cb sb en n0 hC' q1 q2 q3 w1 w2 hNn ebn
          have w3 := w2 (by omega)
          have bb := hNn.b (by decide)
          refine w_iln rfl ?_
          refine w_iflt (fun c1 => ?_) (fun c1 => ?_)
          · exfalso; omega
          · skip
            refine w_iln rfl ?_
            refine w_bp ?_
            refine w_cmne (fun c2 => ?_) (fun c2 => ?_)
            · skip
              refine w_aln rfl ?_
              refine w_gr gm rfl (by decide) rfl (hC'.r (br.1)) ?_
              refine w_iln rfl ?_
              refine w_aln rfl ?_
              refine w_gr gm rfl (by decide) rfl (hC'.r (br.1)) ?_
              refine w_iln rfl ?_
              refine w_iald (v := (TR' mi.toNat)) gr.1 rfl (by show (0 : Int) ≤ mi; omega) (by show mi < ((13 : Nat) : Int); omega) (hC'.2.2.1 _ (by show mi.toNat < 13; omega)) ?_
              refine w_bp ?_
              refine w_cmne (fun c3 => ?_) (fun c3 => ?_)
              · exfalso; omega
              · skip
                refine w_bp ?_
                refine w_goto ?_
                refine w_iast gr.1 rfl (by decide) (by show (0 : Int) ≤ mi; omega) (by show mi < ((13 : Nat) : Int); omega) ?_
                have hC4 := hC'.h5 (j := mi.toNat) (v := 9) gr
                refine w_aln rfl ?_
                refine w_gr gm rfl (by decide) rfl (hC4.r (br.1)) ?_
                refine w_iln rfl ?_
                refine w_iald (v := 9) gr.1 rfl (by show (0 : Int) ≤ mi; omega) (by show mi < ((13 : Nat) : Int); omega) ((hC4.2.2.1 _ (by show mi.toNat < 13; omega)).trans rv_up_s) ?_
                refine w_bp ?_
                refine w_cmgt (fun c5 => ?_) (fun c5 => ?_)
                · skip
                  refine w_ii rfl ⟨by show (-2147483648 : Int) ≤ mi + (-1); omega, by show mi + (-1) < (2147483648 : Int); omega⟩ ?_
                  show wz _ _ _ _ [some (.inr (.inr (some m))), some (.inl (M0.1 s 0)), some (.inl bestn), some (.inl (mi + (-1))), v4] _ _ _ _ _
                  refine w_goto ?_
                  refine h bn bestn _ _ CO' HA' PL' _ _ _ _ hC4 (fun j hj => (rv_up_n (by omega)).trans (q1 j hj)) q2 q3 hNn ?_ (by omega)
                  rw [ebn, show ni.toNat = cs_t (M0.1 s) + 1 by omega, cs_node_e]
                · exfalso; omega
            · exfalso; omega
        | succ n ihn =>
          intro ni bn bestn TR' CO' HA' PL' M' v4 cb sb en n0 hC' q1 q2 q3 w1 w2 hNn ebn
          have w3 := w1 (by omega)
          have bb := hNn.b (by decide)
          have hn9 : ni.toNat ≤ cs_t (M0.1 s) := by omega
          have cc := cs_code_c (H := M0.1 s) hn9
          have hq3 : ∀ q : Nat, (q : Int) < M0.1 s 0 → HA' (3 * mi.toNat + q) = HA (3 * mi.toNat + q) := fun q hq => q3 _ (by omega)
          have hb2 : ∀ q : Nat, (q : Int) < M0.1 s 0 → 0 ≤ HA' (3 * mi.toNat + q) ∧ HA' (3 * mi.toNat + q) ≤ 12000 := fun q hq => by
            rw [hq3 q hq]; exact ⟨(hH q hq).1, by have := (hH q hq).2; omega⟩
          have ecb : cs_cb (M0.1 s) HA' mi.toNat (cs_t (M0.1 s)) 0 = 1 := by
            rw [← hc1, hc0]; exact cs_cb_cg (t := cs_t (M0.1 s)) (fun q hq => hq3 q (by omega)) _ _ (by omega)
          have ek : CO' mi.toNat = k := (q2 _ (by omega)).trans hk
          have cst := cs_cost_9 hr t3 (a := a) (b := ni.toNat) ha hn9
          have eat : (mi = 0 ∧ a = cs_t (M0.1 s)) ∨ (1 ≤ mi ∧ TR' (mi - 1).toNat = cs_code (M0.1 s) a) := by
            rcases hat with z | z
            · exact Or.inl z
            · exact Or.inr ⟨z.1, (q1 _ (by omega)).trans z.2⟩
          refine w_iln rfl ?_
          refine w_iflt (fun c1 => ?_) (fun c1 => ?_)
          · exfalso; omega
          · skip
            refine w_iln rfl ?_
            refine w_bp ?_
            refine w_cmne (fun c2 => ?_) (fun c2 => ?_)
            · skip
              refine w_aln rfl ?_
              refine w_gr gm rfl (by decide) rfl (hC'.r (br.1)) ?_
              refine w_iln rfl ?_
              refine w_aln rfl ?_
              refine w_gr gm rfl (by decide) rfl (hC'.r (br.1)) ?_
              refine w_iln rfl ?_
              refine w_iald (v := (TR' mi.toNat)) gr.1 rfl (by show (0 : Int) ≤ mi; omega) (by show mi < ((13 : Nat) : Int); omega) (hC'.2.2.1 _ (by show mi.toNat < 13; omega)) ?_
              refine w_bp ?_
              refine w_cmne (fun c3 => ?_) (fun c3 => ?_)
              · skip
                refine w_aln rfl ?_
                refine w_gr gm rfl (by decide) rfl (hC'.r (br.1)) ?_
                refine w_iln rfl ?_
                refine w_iald (v := (TR' mi.toNat)) gr.1 rfl (by show (0 : Int) ≤ mi; omega) (by show mi < ((13 : Nat) : Int); omega) (hC'.2.2.1 _ (by show mi.toNat < 13; omega)) ?_
                refine w_ic ?_
                refine w_add ⟨by show (-2147483648 : Int) ≤ (TR' mi.toNat) + 1; omega, by show (TR' mi.toNat) + 1 < (2147483648 : Int); omega⟩ ?_
                refine w_iln rfl ?_
                refine w_cmne (fun c4 => ?_) (fun c4 => ?_)
                · skip
                  refine w_aln rfl ?_
                  refine w_gr gm rfl (by decide) rfl (hC'.r (br.1)) ?_
                  refine w_iln rfl ?_
                  refine w_iald (v := (TR' mi.toNat)) gr.1 rfl (by show (0 : Int) ≤ mi; omega) (by show mi < ((13 : Nat) : Int); omega) (hC'.2.2.1 _ (by show mi.toNat < 13; omega)) ?_
                  refine w_ic ?_
                  refine w_add ⟨by show (-2147483648 : Int) ≤ (TR' mi.toNat) + 1; omega, by show (TR' mi.toNat) + 1 < (2147483648 : Int); omega⟩ ?_
                  refine w_iast gr.1 rfl (by decide) (by show (0 : Int) ≤ mi; omega) (by show mi < ((13 : Nat) : Int); omega) ?_
                  have hC5 := hC'.h5 (j := mi.toNat) (v := (TR' mi.toNat) + 1) gr
                  refine w_aln rfl ?_
                  refine w_gr gm rfl (by decide) rfl (hC5.r (br.1)) ?_
                  refine w_iln rfl ?_
                  refine w_iald (v := (TR' mi.toNat) + 1) gr.1 rfl (by show (0 : Int) ≤ mi; omega) (by show mi < ((13 : Nat) : Int); omega) ((hC5.2.2.1 _ (by show mi.toNat < 13; omega)).trans rv_up_s) ?_
                  refine w_bp ?_
                  refine w_cmgt (fun c6 => ?_) (fun c6 => ?_)
                  · exfalso; omega
                  · skip
                    refine w_aln rfl ?_
                    refine w_iln rfl ?_
                    refine w_cv (st := []) rfl gm rfl (Nat.le_of_ble_eq_true rfl) (fun kk h => h) (r_X12_canBe (d := d) gr br gm gs m6 hr t1 t3 hC5 (mi := mi) (by omega) (by omega) hb2 ?_)
                    show wz _ _ _ _ _ (.inl (cs_cb (M0.1 s) HA' mi.toNat (cs_t (M0.1 s)) 0) :: _) _ _ _ _
                    rw [ecb]
                    refine w_ifne (fun c7 => ?_) (fun c7 => ?_)
                    · skip
                      refine w_aln rfl ?_
                      refine w_gr gm rfl (by decide) rfl (hC5.r (br.2.1)) ?_
                      refine w_iln rfl ?_
                      refine w_ic ?_
                      refine w_add ⟨by show (-2147483648 : Int) ≤ mi + 1; omega, by show mi + 1 < (2147483648 : Int); omega⟩ ?_
                      refine w_aln rfl ?_
                      refine w_gr gm rfl (by decide) rfl (hC5.r (br.2.1)) ?_
                      refine w_iln rfl ?_
                      refine w_iald (v := k) gr.2.1 rfl (by show (0 : Int) ≤ mi; omega) (by show mi < ((13 : Nat) : Int); omega) ((hC5.2.2.2.1 _ (by show mi.toNat < 13; omega)).trans ek) ?_
                      refine w_aln rfl ?_
                      refine w_iln rfl ?_
                      refine w_aln rfl ?_
                      refine w_gr gm rfl (by decide) rfl (hC5.r (br.1)) ?_
                      refine w_iln rfl ?_
                      refine w_iald (v := (TR' mi.toNat) + 1) gr.1 rfl (by show (0 : Int) ≤ mi; omega) (by show mi < ((13 : Nat) : Int); omega) ((hC5.2.2.1 _ (by show mi.toNat < 13; omega)).trans rv_up_s) ?_
                      have etv : (TR' mi.toNat) + 1 = cs_code (M0.1 s) ni.toNat := by omega
                      refine w_cv (st := [.inl k, .inl (mi + 1), .inr (.inr (some (w 346)))]) rfl gm rfl (Nat.le_of_ble_eq_true rfl) (fun kk h => h) (r_X12_costOf (d := d + 1) gr br gm gs m6 hr t1 t3 hC5 (mi := mi) (to := (TR' mi.toNat) + 1) (a := a) (b := ni.toNat) (by omega) (by omega) ha hn9 (eat.elim Or.inl (fun z => Or.inr ⟨z.1, (rv_up_n (by omega)).trans z.2⟩)) etv ?_)
                      refine w_add ⟨by show (-2147483648 : Int) ≤ k + (cs_cost (M0.1 s) a ni.toNat); omega, by show k + (cs_cost (M0.1 s) a ni.toNat) < (2147483648 : Int); omega⟩ ?_
                      refine w_iast gr.2.1 rfl (by decide) (by show (0 : Int) ≤ mi + 1; omega) (by show mi + 1 < ((13 : Nat) : Int); omega) ?_
                      have hC8 := hC5.h6 (j := (mi + 1).toNat) (v := k + (cs_cost (M0.1 s) a ni.toNat)) gr
                      refine w_aln rfl ?_
                      refine w_gr gm rfl (by decide) rfl (hC8.r (br.2.1)) ?_
                      refine w_iln rfl ?_
                      refine w_ic ?_
                      refine w_add ⟨by show (-2147483648 : Int) ≤ mi + 1; omega, by show mi + 1 < (2147483648 : Int); omega⟩ ?_
                      refine w_iald (v := k + (cs_cost (M0.1 s) a ni.toNat)) gr.2.1 rfl (by show (0 : Int) ≤ mi + 1; omega) (by show mi + 1 < ((13 : Nat) : Int); omega) ((hC8.2.2.2.1 _ (by show (mi + 1).toNat < 13; omega)).trans rv_up_s) ?_
                      refine w_iln rfl ?_
                      refine w_cmlt (fun c9 => ?_) (fun c9 => ?_)
                      · skip
                        refine w_ic ?_
                        refine w_is ?_
                        show wz _ _ _ _ [some (.inr (.inr (some m))), some (.inl (M0.1 s 0)), some (.inl bestn), some (.inl mi), some (.inl 0)] _ _ _ _ _
                        have etr : (rv_up TR' mi.toNat ((TR' mi.toNat) + 1)) mi.toNat = ((TR' mi.toNat) + 1) := rv_up_s
                        refine r_hv (d := d + 1) gr br gm gs m6 hr t1 t3 hC8 (mi := mi) (best := bestn) (tv := (TR' mi.toNat) + 1) (by omega) (by omega) etr hb2 (cs_t (M0.1 s)) 0 HA' _ _ _ (by omega) (by decide) hC8 (fun _ _ => rfl) (fun q hq => absurd hq (by omega)) (fun HA2 M2 v4 cb sb hC2 g1 g2 => ?_)
                        refine w_ii rfl ⟨by show (-2147483648 : Int) ≤ mi + 1; omega, by show mi + 1 < (2147483648 : Int); omega⟩ ?_
                        show wz _ _ _ _ [some (.inr (.inr (some m))), some (.inl (M0.1 s 0)), some (.inl bestn), some (.inl (mi + 1)), v4] _ _ _ _ _
                        refine w_iln rfl ?_
                        refine w_bp ?_
                        refine w_cmge (fun c10 => ?_) (fun c10 => ?_)
                        · skip
                          have em : (mi + 1).toNat = mi.toNat + 1 := by omega
                          refine ih (mi + 1) (fun j => if j = mi.toNat then cs_code (M0.1 s) ni.toNat else P j) (k + (cs_cost (M0.1 s) a ni.toNat)) ni.toNat (cs_lk (M0.1 s) L ni.toNat mi.toNat) bn bestn _ _ HA2 PL' _ _ _ _ (by omega) (by omega) hC2 hn9 (Or.inr ⟨by omega, ?_⟩) (fun j hj => ?_) ?_ (by omega) (by omega) (fun q hq => ?_) (fun q hq => ?_) (fun hr0 => ?_) hNn (by omega) (fun b2 best2 mj TR2 CO2 HA3 PL2 M2 v2 cb2 sb2 hC3 p1 p2 p3 hN2 e2 ej => ?_)
                          · rw [show (mi + 1 - 1).toNat = mi.toNat by omega]
                            exact (rv_up_s).trans etv
                          · by_cases ej : (j : Int) = mi
                            · have ej2 : j = mi.toNat := by omega
                              subst ej2
                              exact ((rv_up_s).trans etv).trans (if_pos rfl).symm
                            · exact ((rv_up_n (by omega)).trans ((q1 j (by omega)).trans (hP j (by omega)))).trans (if_neg (by omega)).symm
                          · exact rv_up_s
                          · have g3 := g2 q (by omega)
                            rw [em, show 3 * (mi.toNat + 1) + q = 3 * mi.toNat + 3 + q by omega, g3, hq3 q (by omega)]
                            have h2 := hL q hq
                            unfold cs_lk
                            by_cases eq : q = ni.toNat
                            · rw [if_pos eq, if_pos (by omega), ← eq]; omega
                            · rw [if_neg eq, if_neg (by omega)]; omega
                          · have g3 := g2 q hq
                            have gq := cs_gain_9 hr (k := q) (m := mi.toNat) (by omega) (by omega)
                            have hq2 := hH q hq
                            rw [em, show 3 * (mi.toNat + 1) + q = 3 * mi.toNat + 3 + q by omega, g3, hq3 q hq]
                            split <;> omega
                          · exact absurd hr0 (by omega)
                          rw [em] at e2
                          obtain rfl : mj = mi := by omega
                          refine ihn (ni + 1) b2 best2 TR2 CO2 HA3 PL2 M2 _ _ _ (by omega) (by omega) hC3 (fun j hj => (p1 j (by omega)).trans ((rv_up_n (by omega)).trans (q1 j hj))) (fun j hj => (p2 j (by omega)).trans ((rv_up_n (by omega)).trans (q2 j hj))) (fun j hj => (p3 j (by omega)).trans ((g1 j hj).trans (q3 j hj))) (fun z => (p1 _ (by omega)).trans ((rv_up_s).trans (by omega))) (fun z => (p1 _ (by omega)).trans ((rv_up_s).trans (by omega))) hN2 ?_
                          rw [e2, show (ni + 1).toNat = ni.toNat + 1 by omega, cs_node_s, ← ebn]
                        · skip
                          refine w_aln rfl ?_
                          refine w_gr gm rfl (by decide) rfl (hC2.r (br.1)) ?_
                          refine w_iln rfl ?_
                          refine w_ic ?_
                          refine w_iast gr.1 rfl (by decide) (by show (0 : Int) ≤ mi + 1; omega) (by show mi + 1 < ((13 : Nat) : Int); omega) ?_
                          have hC11 := hC2.h5 (j := (mi + 1).toNat) (v := -1) gr
                          refine w_goto ?_
                          have em : (mi + 1).toNat = mi.toNat + 1 := by omega
                          refine ih (mi + 1) (fun j => if j = mi.toNat then cs_code (M0.1 s) ni.toNat else P j) (k + (cs_cost (M0.1 s) a ni.toNat)) ni.toNat (cs_lk (M0.1 s) L ni.toNat mi.toNat) bn bestn _ _ HA2 PL' _ _ _ _ (by omega) (by omega) hC11 hn9 (Or.inr ⟨by omega, ?_⟩) (fun j hj => ?_) ?_ (by omega) (by omega) (fun q hq => ?_) (fun q hq => ?_) (fun hr0 => ?_) hNn (by omega) (fun b2 best2 mj TR2 CO2 HA3 PL2 M2 v2 cb2 sb2 hC3 p1 p2 p3 hN2 e2 ej => ?_)
                          · rw [show (mi + 1 - 1).toNat = mi.toNat by omega]
                            exact ((rv_up_n (by omega)).trans rv_up_s).trans etv
                          · by_cases ej : (j : Int) = mi
                            · have ej2 : j = mi.toNat := by omega
                              subst ej2
                              exact (((rv_up_n (by omega)).trans rv_up_s).trans etv).trans (if_pos rfl).symm
                            · exact ((rv_up_n (by omega)).trans ((rv_up_n (by omega)).trans ((q1 j (by omega)).trans (hP j (by omega))))).trans (if_neg (by omega)).symm
                          · exact rv_up_s
                          · have g3 := g2 q (by omega)
                            rw [em, show 3 * (mi.toNat + 1) + q = 3 * mi.toNat + 3 + q by omega, g3, hq3 q (by omega)]
                            have h2 := hL q hq
                            unfold cs_lk
                            by_cases eq : q = ni.toNat
                            · rw [if_pos eq, if_pos (by omega), ← eq]; omega
                            · rw [if_neg eq, if_neg (by omega)]; omega
                          · have g3 := g2 q hq
                            have gq := cs_gain_9 hr (k := q) (m := mi.toNat) (by omega) (by omega)
                            have hq2 := hH q hq
                            rw [em, show 3 * (mi.toNat + 1) + q = 3 * mi.toNat + 3 + q by omega, g3, hq3 q hq]
                            split <;> omega
                          · exact rv_up_s
                          rw [em] at e2
                          obtain rfl : mj = mi := by omega
                          refine ihn (ni + 1) b2 best2 TR2 CO2 HA3 PL2 M2 _ _ _ (by omega) (by omega) hC3 (fun j hj => (p1 j (by omega)).trans ((rv_up_n (by omega)).trans ((rv_up_n (by omega)).trans (q1 j hj)))) (fun j hj => (p2 j (by omega)).trans ((rv_up_n (by omega)).trans (q2 j hj))) (fun j hj => (p3 j (by omega)).trans ((g1 j hj).trans (q3 j hj))) (fun z => (p1 _ (by omega)).trans (((rv_up_n (by omega)).trans rv_up_s).trans (by omega))) (fun z => (p1 _ (by omega)).trans (((rv_up_n (by omega)).trans rv_up_s).trans (by omega))) hN2 ?_
                          rw [e2, show (ni + 1).toNat = ni.toNat + 1 by omega, cs_node_s, ← ebn]
                      · skip
                        refine w_goto ?_
                        refine ihn (ni + 1) bn bestn _ _ HA' PL' _ _ _ _ (by omega) (by omega) hC8 (fun j hj => (rv_up_n (by omega)).trans (q1 j hj)) (fun j hj => (rv_up_n (by omega)).trans (q2 j hj)) q3 (fun z => rv_up_s.trans (by omega)) (fun z => rv_up_s.trans (by omega)) hNn ?_
                        rw [show (ni + 1).toNat = ni.toNat + 1 by omega, ebn]
                        exact (cs_node_cut ho (by rw [← ebn]; exact hNn.le (by omega) (by omega))).symm
                    · exfalso; omega
                · skip
                  refine w_bp ?_
                  refine w_goto ?_
                  refine w_iast gr.1 rfl (by decide) (by show (0 : Int) ≤ mi; omega) (by show mi < ((13 : Nat) : Int); omega) ?_
                  have hC12 := hC'.h5 (j := mi.toNat) (v := 8) gr
                  refine w_aln rfl ?_
                  refine w_gr gm rfl (by decide) rfl (hC12.r (br.1)) ?_
                  refine w_iln rfl ?_
                  refine w_iald (v := 8) gr.1 rfl (by show (0 : Int) ≤ mi; omega) (by show mi < ((13 : Nat) : Int); omega) ((hC12.2.2.1 _ (by show mi.toNat < 13; omega)).trans rv_up_s) ?_
                  refine w_bp ?_
                  refine w_cmgt (fun c13 => ?_) (fun c13 => ?_)
                  · exfalso; omega
                  · skip
                    refine w_aln rfl ?_
                    refine w_iln rfl ?_
                    refine w_cv (st := []) rfl gm rfl (Nat.le_of_ble_eq_true rfl) (fun kk h => h) (r_X12_canBe (d := d) gr br gm gs m6 hr t1 t3 hC12 (mi := mi) (by omega) (by omega) hb2 ?_)
                    show wz _ _ _ _ _ (.inl (cs_cb (M0.1 s) HA' mi.toNat (cs_t (M0.1 s)) 0) :: _) _ _ _ _
                    rw [ecb]
                    refine w_ifne (fun c14 => ?_) (fun c14 => ?_)
                    · skip
                      refine w_aln rfl ?_
                      refine w_gr gm rfl (by decide) rfl (hC12.r (br.2.1)) ?_
                      refine w_iln rfl ?_
                      refine w_ic ?_
                      refine w_add ⟨by show (-2147483648 : Int) ≤ mi + 1; omega, by show mi + 1 < (2147483648 : Int); omega⟩ ?_
                      refine w_aln rfl ?_
                      refine w_gr gm rfl (by decide) rfl (hC12.r (br.2.1)) ?_
                      refine w_iln rfl ?_
                      refine w_iald (v := k) gr.2.1 rfl (by show (0 : Int) ≤ mi; omega) (by show mi < ((13 : Nat) : Int); omega) ((hC12.2.2.2.1 _ (by show mi.toNat < 13; omega)).trans ek) ?_
                      refine w_aln rfl ?_
                      refine w_iln rfl ?_
                      refine w_aln rfl ?_
                      refine w_gr gm rfl (by decide) rfl (hC12.r (br.1)) ?_
                      refine w_iln rfl ?_
                      refine w_iald (v := 8) gr.1 rfl (by show (0 : Int) ≤ mi; omega) (by show mi < ((13 : Nat) : Int); omega) ((hC12.2.2.1 _ (by show mi.toNat < 13; omega)).trans rv_up_s) ?_
                      have etv : 8 = cs_code (M0.1 s) ni.toNat := by omega
                      refine w_cv (st := [.inl k, .inl (mi + 1), .inr (.inr (some (w 346)))]) rfl gm rfl (Nat.le_of_ble_eq_true rfl) (fun kk h => h) (r_X12_costOf (d := d + 1) gr br gm gs m6 hr t1 t3 hC12 (mi := mi) (to := 8) (a := a) (b := ni.toNat) (by omega) (by omega) ha hn9 (eat.elim Or.inl (fun z => Or.inr ⟨z.1, (rv_up_n (by omega)).trans z.2⟩)) etv ?_)
                      refine w_add ⟨by show (-2147483648 : Int) ≤ k + (cs_cost (M0.1 s) a ni.toNat); omega, by show k + (cs_cost (M0.1 s) a ni.toNat) < (2147483648 : Int); omega⟩ ?_
                      refine w_iast gr.2.1 rfl (by decide) (by show (0 : Int) ≤ mi + 1; omega) (by show mi + 1 < ((13 : Nat) : Int); omega) ?_
                      have hC15 := hC12.h6 (j := (mi + 1).toNat) (v := k + (cs_cost (M0.1 s) a ni.toNat)) gr
                      refine w_aln rfl ?_
                      refine w_gr gm rfl (by decide) rfl (hC15.r (br.2.1)) ?_
                      refine w_iln rfl ?_
                      refine w_ic ?_
                      refine w_add ⟨by show (-2147483648 : Int) ≤ mi + 1; omega, by show mi + 1 < (2147483648 : Int); omega⟩ ?_
                      refine w_iald (v := k + (cs_cost (M0.1 s) a ni.toNat)) gr.2.1 rfl (by show (0 : Int) ≤ mi + 1; omega) (by show mi + 1 < ((13 : Nat) : Int); omega) ((hC15.2.2.2.1 _ (by show (mi + 1).toNat < 13; omega)).trans rv_up_s) ?_
                      refine w_iln rfl ?_
                      refine w_cmlt (fun c16 => ?_) (fun c16 => ?_)
                      · skip
                        refine w_ic ?_
                        refine w_is ?_
                        show wz _ _ _ _ [some (.inr (.inr (some m))), some (.inl (M0.1 s 0)), some (.inl bestn), some (.inl mi), some (.inl 0)] _ _ _ _ _
                        have etr : (rv_up TR' mi.toNat 8) mi.toNat = 8 := rv_up_s
                        refine r_hv (d := d + 1) gr br gm gs m6 hr t1 t3 hC15 (mi := mi) (best := bestn) (tv := 8) (by omega) (by omega) etr hb2 (cs_t (M0.1 s)) 0 HA' _ _ _ (by omega) (by decide) hC15 (fun _ _ => rfl) (fun q hq => absurd hq (by omega)) (fun HA2 M2 v4 cb sb hC2 g1 g2 => ?_)
                        refine w_ii rfl ⟨by show (-2147483648 : Int) ≤ mi + 1; omega, by show mi + 1 < (2147483648 : Int); omega⟩ ?_
                        show wz _ _ _ _ [some (.inr (.inr (some m))), some (.inl (M0.1 s 0)), some (.inl bestn), some (.inl (mi + 1)), v4] _ _ _ _ _
                        refine w_iln rfl ?_
                        refine w_bp ?_
                        refine w_cmge (fun c17 => ?_) (fun c17 => ?_)
                        · skip
                          have em : (mi + 1).toNat = mi.toNat + 1 := by omega
                          refine ih (mi + 1) (fun j => if j = mi.toNat then cs_code (M0.1 s) ni.toNat else P j) (k + (cs_cost (M0.1 s) a ni.toNat)) ni.toNat (cs_lk (M0.1 s) L ni.toNat mi.toNat) bn bestn _ _ HA2 PL' _ _ _ _ (by omega) (by omega) hC2 hn9 (Or.inr ⟨by omega, ?_⟩) (fun j hj => ?_) ?_ (by omega) (by omega) (fun q hq => ?_) (fun q hq => ?_) (fun hr0 => ?_) hNn (by omega) (fun b2 best2 mj TR2 CO2 HA3 PL2 M2 v2 cb2 sb2 hC3 p1 p2 p3 hN2 e2 ej => ?_)
                          · rw [show (mi + 1 - 1).toNat = mi.toNat by omega]
                            exact (rv_up_s).trans etv
                          · by_cases ej : (j : Int) = mi
                            · have ej2 : j = mi.toNat := by omega
                              subst ej2
                              exact ((rv_up_s).trans etv).trans (if_pos rfl).symm
                            · exact ((rv_up_n (by omega)).trans ((q1 j (by omega)).trans (hP j (by omega)))).trans (if_neg (by omega)).symm
                          · exact rv_up_s
                          · have g3 := g2 q (by omega)
                            rw [em, show 3 * (mi.toNat + 1) + q = 3 * mi.toNat + 3 + q by omega, g3, hq3 q (by omega)]
                            have h2 := hL q hq
                            unfold cs_lk
                            by_cases eq : q = ni.toNat
                            · rw [if_pos eq, if_pos (by omega), ← eq]; omega
                            · rw [if_neg eq, if_neg (by omega)]; omega
                          · have g3 := g2 q hq
                            have gq := cs_gain_9 hr (k := q) (m := mi.toNat) (by omega) (by omega)
                            have hq2 := hH q hq
                            rw [em, show 3 * (mi.toNat + 1) + q = 3 * mi.toNat + 3 + q by omega, g3, hq3 q hq]
                            split <;> omega
                          · exact absurd hr0 (by omega)
                          rw [em] at e2
                          obtain rfl : mj = mi := by omega
                          refine ihn (ni + 1) b2 best2 TR2 CO2 HA3 PL2 M2 _ _ _ (by omega) (by omega) hC3 (fun j hj => (p1 j (by omega)).trans ((rv_up_n (by omega)).trans (q1 j hj))) (fun j hj => (p2 j (by omega)).trans ((rv_up_n (by omega)).trans (q2 j hj))) (fun j hj => (p3 j (by omega)).trans ((g1 j hj).trans (q3 j hj))) (fun z => (p1 _ (by omega)).trans ((rv_up_s).trans (by omega))) (fun z => (p1 _ (by omega)).trans ((rv_up_s).trans (by omega))) hN2 ?_
                          rw [e2, show (ni + 1).toNat = ni.toNat + 1 by omega, cs_node_s, ← ebn]
                        · skip
                          refine w_aln rfl ?_
                          refine w_gr gm rfl (by decide) rfl (hC2.r (br.1)) ?_
                          refine w_iln rfl ?_
                          refine w_ic ?_
                          refine w_iast gr.1 rfl (by decide) (by show (0 : Int) ≤ mi + 1; omega) (by show mi + 1 < ((13 : Nat) : Int); omega) ?_
                          have hC18 := hC2.h5 (j := (mi + 1).toNat) (v := -1) gr
                          refine w_goto ?_
                          have em : (mi + 1).toNat = mi.toNat + 1 := by omega
                          refine ih (mi + 1) (fun j => if j = mi.toNat then cs_code (M0.1 s) ni.toNat else P j) (k + (cs_cost (M0.1 s) a ni.toNat)) ni.toNat (cs_lk (M0.1 s) L ni.toNat mi.toNat) bn bestn _ _ HA2 PL' _ _ _ _ (by omega) (by omega) hC18 hn9 (Or.inr ⟨by omega, ?_⟩) (fun j hj => ?_) ?_ (by omega) (by omega) (fun q hq => ?_) (fun q hq => ?_) (fun hr0 => ?_) hNn (by omega) (fun b2 best2 mj TR2 CO2 HA3 PL2 M2 v2 cb2 sb2 hC3 p1 p2 p3 hN2 e2 ej => ?_)
                          · rw [show (mi + 1 - 1).toNat = mi.toNat by omega]
                            exact ((rv_up_n (by omega)).trans rv_up_s).trans etv
                          · by_cases ej : (j : Int) = mi
                            · have ej2 : j = mi.toNat := by omega
                              subst ej2
                              exact (((rv_up_n (by omega)).trans rv_up_s).trans etv).trans (if_pos rfl).symm
                            · exact ((rv_up_n (by omega)).trans ((rv_up_n (by omega)).trans ((q1 j (by omega)).trans (hP j (by omega))))).trans (if_neg (by omega)).symm
                          · exact rv_up_s
                          · have g3 := g2 q (by omega)
                            rw [em, show 3 * (mi.toNat + 1) + q = 3 * mi.toNat + 3 + q by omega, g3, hq3 q (by omega)]
                            have h2 := hL q hq
                            unfold cs_lk
                            by_cases eq : q = ni.toNat
                            · rw [if_pos eq, if_pos (by omega), ← eq]; omega
                            · rw [if_neg eq, if_neg (by omega)]; omega
                          · have g3 := g2 q hq
                            have gq := cs_gain_9 hr (k := q) (m := mi.toNat) (by omega) (by omega)
                            have hq2 := hH q hq
                            rw [em, show 3 * (mi.toNat + 1) + q = 3 * mi.toNat + 3 + q by omega, g3, hq3 q hq]
                            split <;> omega
                          · exact rv_up_s
                          rw [em] at e2
                          obtain rfl : mj = mi := by omega
                          refine ihn (ni + 1) b2 best2 TR2 CO2 HA3 PL2 M2 _ _ _ (by omega) (by omega) hC3 (fun j hj => (p1 j (by omega)).trans ((rv_up_n (by omega)).trans ((rv_up_n (by omega)).trans (q1 j hj)))) (fun j hj => (p2 j (by omega)).trans ((rv_up_n (by omega)).trans (q2 j hj))) (fun j hj => (p3 j (by omega)).trans ((g1 j hj).trans (q3 j hj))) (fun z => (p1 _ (by omega)).trans (((rv_up_n (by omega)).trans rv_up_s).trans (by omega))) (fun z => (p1 _ (by omega)).trans (((rv_up_n (by omega)).trans rv_up_s).trans (by omega))) hN2 ?_
                          rw [e2, show (ni + 1).toNat = ni.toNat + 1 by omega, cs_node_s, ← ebn]
                      · skip
                        refine w_goto ?_
                        refine ihn (ni + 1) bn bestn _ _ HA' PL' _ _ _ _ (by omega) (by omega) hC15 (fun j hj => (rv_up_n (by omega)).trans (q1 j hj)) (fun j hj => (rv_up_n (by omega)).trans (q2 j hj)) q3 (fun z => rv_up_s.trans (by omega)) (fun z => rv_up_s.trans (by omega)) hNn ?_
                        rw [show (ni + 1).toNat = ni.toNat + 1 by omega, ebn]
                        exact (cs_node_cut ho (by rw [← ebn]; exact hNn.le (by omega) (by omega))).symm
                    · exfalso; omega
              · exfalso; omega
            · exfalso; omega
      refine key (cs_t (M0.1 s) + 1) 0 b best TR CO HA PL M v4 cb sb (by omega) (by decide) hC (fun _ _ => rfl) (fun _ _ => rfl) (fun _ _ => rfl) (fun _ => by omega) (fun z => by omega) hN ?_
      rw [show (0 : Int).toNat = 0 from rfl, cs_node_0]
theorem r_ch2 {G : mj_G} {M0 : mj_M} {m s : Nat} {w : Nat → Nat} {Q : mj_P} {d : Nat} (gr : cp_GR G w) (br : cp_BR M0 w m) (gm : G m = (1012, 0)) (gs : G s = (51100, 537)) (m6 : M0.2.2 m 6 = some s) (hr : rv_r4 (M0.1 s) 0) (t1 : 1 ≤ M0.1 s 0) (t3 : M0.1 s 0 ≤ 3) {M : mj_M} {TR CO HA PL : Nat → Int} (hC : cr_C w M0 TR CO HA PL M) {P0 : Nat → Int} {b : cs_R} {best mj : Int} {v4 : Option mj_V} {cb sb : Nat} (hmj : mj + 1 = 0) (hN : cs_N 1000000000 P0 b best PL) (hn : b = none → (∀ j, j < 12 → PL j = P0 j) → Q (some (.inl (-1))) G M) (hs : ∀ c P, b = some (c, P) → 0 ≤ c → c < 1000000000 → (∀ j, j < 12 → PL j = P j) → Q (some (.inl c)) G (mj_p0 (mj_p0 M m 39 1) m 40 (M0.1 m 25))) : wz (d + 3) mt_X12_cheapest.2.2.2.2.1 Q (mt_X12_cheapest.2.2.2.2.1.drop 41) [some (.inr (.inr (some m))), some (.inl (M0.1 s 0)), some (.inl best), some (.inl mj), v4] [] G M cb sb := by
  have bb := hN.b (by decide)
  obtain rfl : mj = -1 := by omega
  refine w_iln rfl ?_
  refine w_iflt (fun c1 => ?_) (fun c1 => ?_)
  · skip
    refine w_iln rfl ?_
    refine w_ldcw ?_
    refine w_cmne (fun c2 => ?_) (fun c2 => ?_)
    · skip
      refine w_aln rfl ?_
      refine w_ic ?_
      refine w_pi gm rfl (by decide) rfl (fun _ => by omega) ?_
      refine w_aln rfl ?_
      refine w_aln rfl ?_
      refine w_gi gm rfl (by decide) rfl ((hn_n (Or.inr (by decide))).trans (hC.mj gr gm)) ?_
      refine w_pi gm rfl (by decide) rfl (fun q => by cases q) ?_
      refine w_iln rfl ?_
      cases b with
      | none => have q : best = 1000000000 := hN.1; omega
      | some x =>
        obtain ⟨e1, e2, e3, e4⟩ := hN
        subst e1
        exact w_iret (fun q => by cases q) (hs x.1 x.2 rfl e2 e3 e4)
    · skip
      refine w_ic ?_
      have eb : b = none := by
        cases b with
        | none => rfl
        | some x => obtain ⟨-, -, q, -⟩ := hN; omega
      subst eb
      exact w_iret (fun q => by cases q) (hn rfl hN.2)
  · exfalso; omega
/-- what the reference's cheapest tells, one to three towns -/
def cs_L0 (H : Nat → Int) : Nat → Int := fun q => H (8 + 9 * q)
noncomputable def cs_A (H : Nat → Int) : cs_R := cs_S H 12 0 (cs_t H) (cs_L0 H)
theorem r_ch1 {G : mj_G} {M0 : mj_M} {m s : Nat} {w : Nat → Nat} {Q : mj_P} {d : Nat} (gr : cp_GR G w) (br : cp_BR M0 w m) (gm : G m = (1012, 0)) (gs : G s = (51100, 537)) (m6 : M0.2.2 m 6 = some s) (hr : rv_r4 (M0.1 s) 0) (t1 : 1 ≤ M0.1 s 0) (t3 : M0.1 s 0 ≤ 3) (hn : cs_A (M0.1 s) = none → ∀ M' TR CO HA PL, cr_C w M0 TR CO HA PL M' → (∀ j, j < 12 → PL j = M0.1 (w 348) j) → Q (some (.inl (-1))) G M') (hs : ∀ c P, cs_A (M0.1 s) = some (c, P) → 0 ≤ c → c < 1000000000 → ∀ M' TR CO HA PL, cr_C w M0 TR CO HA PL M' → (∀ j, j < 12 → PL j = P j) → Q (some (.inl c)) G (mj_p0 (mj_p0 M' m 39 1) m 40 (M0.1 m 25))) {cb sb : Nat} : wz (d + 3) mt_X12_cheapest.2.2.2.2.1 Q (mt_X12_cheapest.2.2.2.2.1.drop 15) [some (.inr (.inr (some m))), some (.inl (M0.1 s 0)), none, none, none] [] G M0 cb sb := by
  have et := cs_te hr
  have b1 := cs_r1 hr
  have hC := cr_C.re (w := w) (M := M0)
  obtain ⟨TR, hTR⟩ : ∃ F, F = M0.1 (w 345) := ⟨_, rfl⟩
  obtain ⟨CO, hCO⟩ : ∃ F, F = M0.1 (w 346) := ⟨_, rfl⟩
  obtain ⟨HA, hHA⟩ : ∃ F, F = M0.1 (w 347) := ⟨_, rfl⟩
  obtain ⟨PL, hPL⟩ : ∃ F, F = M0.1 (w 348) := ⟨_, rfl⟩
  rw [← hTR, ← hCO, ← hHA, ← hPL] at hC
  rw [← hPL] at hn
  refine w_ldcw ?_
  refine w_isn ?_
  show wz _ _ _ _ [some (.inr (.inr (some m))), some (.inl (M0.1 s 0)), some (.inl 1000000000), none, none] _ _ _ _ _
  refine w_aln rfl ?_
  refine w_gr gm rfl (by decide) rfl (hC.r (br.2.1)) ?_
  refine w_ic ?_
  refine w_ic ?_
  refine w_iast gr.2.1 rfl (by decide) (by show (0 : Int) ≤ 0; omega) (by show 0 < ((13 : Nat) : Int); omega) ?_
  have hC1 := hC.h6 (j := (0 : Int).toNat) (v := 0) gr
  refine w_ic ?_
  refine w_isn ?_
  show wz _ _ _ _ [some (.inr (.inr (some m))), some (.inl (M0.1 s 0)), some (.inl 1000000000), some (.inl 0), none] _ _ _ _ _
  refine w_iln rfl ?_
  refine w_ic ?_
  refine w_cmge (fun c2 => ?_) (fun c2 => ?_)
  · exfalso; omega
  · skip
    refine w_aln rfl ?_
    refine w_gr gm rfl (by decide) rfl (hC1.r (br.2.2.1)) ?_
    refine w_iln rfl ?_
    refine w_ic ?_
    refine w_iast gr.2.2.1 rfl (by decide) (by show (0 : Int) ≤ 0; omega) (by show 0 < ((39 : Nat) : Int); omega) ?_
    have hC3 := hC1.h7 (j := (0 : Int).toNat) (v := 0) gr
    refine w_ii rfl ⟨by show (-2147483648 : Int) ≤ 1; omega, by show 1 < (2147483648 : Int); omega⟩ ?_
    show wz _ _ _ _ [some (.inr (.inr (some m))), some (.inl (M0.1 s 0)), some (.inl 1000000000), some (.inl 1), none] _ _ _ _ _
    refine w_goto ?_
    refine w_iln rfl ?_
    refine w_ic ?_
    refine w_cmge (fun c4 => ?_) (fun c4 => ?_)
    · exfalso; omega
    · skip
      refine w_aln rfl ?_
      refine w_gr gm rfl (by decide) rfl (hC3.r (br.2.2.1)) ?_
      refine w_iln rfl ?_
      refine w_ic ?_
      refine w_iast gr.2.2.1 rfl (by decide) (by show (0 : Int) ≤ 1; omega) (by show 1 < ((39 : Nat) : Int); omega) ?_
      have hC5 := hC3.h7 (j := (1 : Int).toNat) (v := 0) gr
      refine w_ii rfl ⟨by show (-2147483648 : Int) ≤ 2; omega, by show 2 < (2147483648 : Int); omega⟩ ?_
      show wz _ _ _ _ [some (.inr (.inr (some m))), some (.inl (M0.1 s 0)), some (.inl 1000000000), some (.inl 2), none] _ _ _ _ _
      refine w_goto ?_
      refine w_iln rfl ?_
      refine w_ic ?_
      refine w_cmge (fun c6 => ?_) (fun c6 => ?_)
      · exfalso; omega
      · skip
        refine w_aln rfl ?_
        refine w_gr gm rfl (by decide) rfl (hC5.r (br.2.2.1)) ?_
        refine w_iln rfl ?_
        refine w_ic ?_
        refine w_iast gr.2.2.1 rfl (by decide) (by show (0 : Int) ≤ 2; omega) (by show 2 < ((39 : Nat) : Int); omega) ?_
        have hC7 := hC5.h7 (j := (2 : Int).toNat) (v := 0) gr
        refine w_ii rfl ⟨by show (-2147483648 : Int) ≤ 3; omega, by show 3 < (2147483648 : Int); omega⟩ ?_
        show wz _ _ _ _ [some (.inr (.inr (some m))), some (.inl (M0.1 s 0)), some (.inl 1000000000), some (.inl 3), none] _ _ _ _ _
        refine w_goto ?_
        refine w_iln rfl ?_
        refine w_ic ?_
        refine w_cmge (fun c8 => ?_) (fun c8 => ?_)
        · skip
          refine w_ic ?_
          refine w_isn ?_
          show wz _ _ _ _ [some (.inr (.inr (some m))), some (.inl (M0.1 s 0)), some (.inl 1000000000), some (.inl 0), none] _ _ _ _ _
          refine w_aln rfl ?_
          refine w_gr gm rfl (by decide) rfl (hC7.r (br.1)) ?_
          refine w_ic ?_
          refine w_ic ?_
          refine w_iast gr.1 rfl (by decide) (by show (0 : Int) ≤ 0; omega) (by show 0 < ((13 : Nat) : Int); omega) ?_
          have hC9 := hC7.h5 (j := (0 : Int).toNat) (v := -1) gr
          refine r_go (d := d) (P0 := PL) gr br gm gs m6 hr t1 t3 12 0 (fun _ => 0) 0 (cs_t (M0.1 s)) (cs_L0 (M0.1 s)) none 1000000000 _ _ _ PL _ _ _ _ (by decide) (by decide) hC9 (Nat.le_refl _) (Or.inl ⟨rfl, rfl⟩) (fun j hj => absurd hj (by omega)) rv_up_s (by decide) (by decide) (fun q hq => ?_) (fun q hq => ?_) (fun _ => rv_up_s) ⟨rfl, fun _ _ => rfl⟩ (by decide) (fun b2 best2 mj TR2 CO2 HA2 PL2 M2 v2 cb2 sb2 hC2 p1 p2 p3 hN2 e2 ej => ?_)
          · have hz : (rv_up (rv_up (rv_up HA ((0 : Int).toNat) 0) ((1 : Int).toNat) 0) ((2 : Int).toNat) 0) (3 * (0 : Int).toNat + q) = 0 := by
              rcases (by omega : q = 0 ∨ q = 1 ∨ q = 2) with z | z | z <;> subst z
              · exact (rv_up_n (by decide)).trans ((rv_up_n (by decide)).trans rv_up_s)
              · exact (rv_up_n (by decide)).trans rv_up_s
              · exact rv_up_s
            rw [hz]; show M0.1 s (8 + 9 * q) = M0.1 s (8 + 9 * q) - 0; omega
          · have hz : (rv_up (rv_up (rv_up HA ((0 : Int).toNat) 0) ((1 : Int).toNat) 0) ((2 : Int).toNat) 0) (3 * (0 : Int).toNat + q) = 0 := by
              rcases (by omega : q = 0 ∨ q = 1 ∨ q = 2) with z | z | z <;> subst z
              · exact (rv_up_n (by decide)).trans ((rv_up_n (by decide)).trans rv_up_s)
              · exact (rv_up_n (by decide)).trans rv_up_s
              · exact rv_up_s
            rw [hz]; decide
          have eA : b2 = cs_A (M0.1 s) := by
            rw [e2]
            show cs_min none (cs_pre 0 (fun _ => 0) 0 (cs_A (M0.1 s))) = _
            cases cs_A (M0.1 s) with
            | none => rfl
            | some x =>
              show some (0 + x.1, _) = some x
              rw [Int.zero_add]; rfl
          refine r_ch2 (d := d) gr br gm gs m6 hr t1 t3 hC2 ej hN2 (fun e hp => ?_) (fun c P e c0 c9 hp => ?_)
          · exact hn (eA.symm.trans e) M2 TR2 CO2 HA2 PL2 hC2 hp
          · exact hs c P (eA.symm.trans e) c0 c9 M2 TR2 CO2 HA2 PL2 hC2 hp
        · exfalso; omega
end
section
/-! ===== the cheapest letting: the class, its small methods (laid by a program) ===== -/
def cp_lt : List (Nat × Nat × Nat) := [(125, 1001, 0), (126, 2100, 12), (127, 3100, 3), (128, 4100, 3), (129, 5104, 3), (130, 6100, 12), (131, 6100, 12), (132, 6100, 12), (133, 7104, 3), (134, 8100, 13), (135, 8100, 13), (136, 8100, 13), (137, 9100, 13), (138, 10104, 3), (139, 11100, 81), (140, 11100, 81), (141, 11100, 81), (142, 12100, 81), (143, 13100, 81), (144, 14100, 12), (145, 15100, 12)]
def cp_lr : List (Nat × Nat × Nat) := [(125, 0, 126), (125, 7, 127), (125, 8, 128), (125, 9, 129), (125, 10, 133), (125, 11, 137), (125, 12, 138), (125, 13, 142), (125, 14, 143), (125, 16, 144), (125, 17, 145), (129, 0, 130), (129, 1, 131), (129, 2, 132), (133, 0, 134), (133, 1, 135), (133, 2, 136), (138, 0, 139), (138, 1, 140), (138, 2, 141)]
def cp_GA (G : mj_G) (w : Nat → Nat) : Prop := (∀ i j, i < 361 → j < 361 → w i = w j → i = j) ∧ ∀ e ∈ cp_lt, G (w e.1) = (e.2.1, e.2.2)
def cp_BA (M : mj_M) (w : Nat → Nat) : Prop := ∀ e ∈ cp_lr, M.2.2 (w e.1) e.2.1 = some (w e.2.2)
section CG
variable {G : mj_G} {M M0 : mj_M} {w : Nat → Nat} {H : Nat → Int} {LA PA BE LA2 : Nat → Int} {bp v : Int} {j k a b i : Nat}
theorem cp_GA.g125 (h : cp_GA G w) : G (w 125) = (1001, 0) := h.2 (125, 1001, 0) (by decide)
theorem cp_GA.g126 (h : cp_GA G w) : G (w 126) = (2100, 12) := h.2 (126, 2100, 12) (by decide)
theorem cp_GA.g127 (h : cp_GA G w) : G (w 127) = (3100, 3) := h.2 (127, 3100, 3) (by decide)
theorem cp_GA.g128 (h : cp_GA G w) : G (w 128) = (4100, 3) := h.2 (128, 4100, 3) (by decide)
theorem cp_GA.g129 (h : cp_GA G w) : G (w 129) = (5104, 3) := h.2 (129, 5104, 3) (by decide)
theorem cp_GA.g130 (h : cp_GA G w) : G (w 130) = (6100, 12) := h.2 (130, 6100, 12) (by decide)
theorem cp_GA.g131 (h : cp_GA G w) : G (w 131) = (6100, 12) := h.2 (131, 6100, 12) (by decide)
theorem cp_GA.g132 (h : cp_GA G w) : G (w 132) = (6100, 12) := h.2 (132, 6100, 12) (by decide)
theorem cp_GA.g133 (h : cp_GA G w) : G (w 133) = (7104, 3) := h.2 (133, 7104, 3) (by decide)
theorem cp_GA.g134 (h : cp_GA G w) : G (w 134) = (8100, 13) := h.2 (134, 8100, 13) (by decide)
theorem cp_GA.g135 (h : cp_GA G w) : G (w 135) = (8100, 13) := h.2 (135, 8100, 13) (by decide)
theorem cp_GA.g136 (h : cp_GA G w) : G (w 136) = (8100, 13) := h.2 (136, 8100, 13) (by decide)
theorem cp_GA.g137 (h : cp_GA G w) : G (w 137) = (9100, 13) := h.2 (137, 9100, 13) (by decide)
theorem cp_GA.g138 (h : cp_GA G w) : G (w 138) = (10104, 3) := h.2 (138, 10104, 3) (by decide)
theorem cp_GA.g139 (h : cp_GA G w) : G (w 139) = (11100, 81) := h.2 (139, 11100, 81) (by decide)
theorem cp_GA.g140 (h : cp_GA G w) : G (w 140) = (11100, 81) := h.2 (140, 11100, 81) (by decide)
theorem cp_GA.g141 (h : cp_GA G w) : G (w 141) = (11100, 81) := h.2 (141, 11100, 81) (by decide)
theorem cp_GA.g142 (h : cp_GA G w) : G (w 142) = (12100, 81) := h.2 (142, 12100, 81) (by decide)
theorem cp_GA.g143 (h : cp_GA G w) : G (w 143) = (13100, 81) := h.2 (143, 13100, 81) (by decide)
theorem cp_GA.g144 (h : cp_GA G w) : G (w 144) = (14100, 12) := h.2 (144, 14100, 12) (by decide)
theorem cp_GA.g145 (h : cp_GA G w) : G (w 145) = (15100, 12) := h.2 (145, 15100, 12) (by decide)
theorem cp_BA.r125_0 (h : cp_BA M w) : M.2.2 (w 125) 0 = some (w 126) := h (125, 0, 126) (by decide)
theorem cp_BA.r125_7 (h : cp_BA M w) : M.2.2 (w 125) 7 = some (w 127) := h (125, 7, 127) (by decide)
theorem cp_BA.r125_8 (h : cp_BA M w) : M.2.2 (w 125) 8 = some (w 128) := h (125, 8, 128) (by decide)
theorem cp_BA.r125_9 (h : cp_BA M w) : M.2.2 (w 125) 9 = some (w 129) := h (125, 9, 129) (by decide)
theorem cp_BA.r125_10 (h : cp_BA M w) : M.2.2 (w 125) 10 = some (w 133) := h (125, 10, 133) (by decide)
theorem cp_BA.r125_11 (h : cp_BA M w) : M.2.2 (w 125) 11 = some (w 137) := h (125, 11, 137) (by decide)
theorem cp_BA.r125_12 (h : cp_BA M w) : M.2.2 (w 125) 12 = some (w 138) := h (125, 12, 138) (by decide)
theorem cp_BA.r125_13 (h : cp_BA M w) : M.2.2 (w 125) 13 = some (w 142) := h (125, 13, 142) (by decide)
theorem cp_BA.r125_14 (h : cp_BA M w) : M.2.2 (w 125) 14 = some (w 143) := h (125, 14, 143) (by decide)
theorem cp_BA.r125_16 (h : cp_BA M w) : M.2.2 (w 125) 16 = some (w 144) := h (125, 16, 144) (by decide)
theorem cp_BA.r125_17 (h : cp_BA M w) : M.2.2 (w 125) 17 = some (w 145) := h (125, 17, 145) (by decide)
theorem cp_BA.r129_0 (h : cp_BA M w) : M.2.2 (w 129) 0 = some (w 130) := h (129, 0, 130) (by decide)
theorem cp_BA.r129_1 (h : cp_BA M w) : M.2.2 (w 129) 1 = some (w 131) := h (129, 1, 131) (by decide)
theorem cp_BA.r129_2 (h : cp_BA M w) : M.2.2 (w 129) 2 = some (w 132) := h (129, 2, 132) (by decide)
theorem cp_BA.r133_0 (h : cp_BA M w) : M.2.2 (w 133) 0 = some (w 134) := h (133, 0, 134) (by decide)
theorem cp_BA.r133_1 (h : cp_BA M w) : M.2.2 (w 133) 1 = some (w 135) := h (133, 1, 135) (by decide)
theorem cp_BA.r133_2 (h : cp_BA M w) : M.2.2 (w 133) 2 = some (w 136) := h (133, 2, 136) (by decide)
theorem cp_BA.r138_0 (h : cp_BA M w) : M.2.2 (w 138) 0 = some (w 139) := h (138, 0, 139) (by decide)
theorem cp_BA.r138_1 (h : cp_BA M w) : M.2.2 (w 138) 1 = some (w 140) := h (138, 1, 140) (by decide)
theorem cp_BA.r138_2 (h : cp_BA M w) : M.2.2 (w 138) 2 = some (w 141) := h (138, 2, 141) (by decide)
theorem cp_GA.w130 (h : cp_GA G w) (hk : k < 3) : G (w (130 + k)) = (6100, 12) := by
  rcases (by omega : k = 0 ∨ k = 1 ∨ k = 2) with e | e | e <;> subst e
  · exact h.g130
  · exact h.g131
  · exact h.g132
theorem cp_BA.w130 (h : cp_BA M w) (hk : k < 3) : M.2.2 (w 129) k = some (w (130 + k)) := by
  rcases (by omega : k = 0 ∨ k = 1 ∨ k = 2) with e | e | e <;> subst e
  · exact h.r129_0
  · exact h.r129_1
  · exact h.r129_2
theorem cp_GA.w134 (h : cp_GA G w) (hk : k < 3) : G (w (134 + k)) = (8100, 13) := by
  rcases (by omega : k = 0 ∨ k = 1 ∨ k = 2) with e | e | e <;> subst e
  · exact h.g134
  · exact h.g135
  · exact h.g136
theorem cp_BA.w134 (h : cp_BA M w) (hk : k < 3) : M.2.2 (w 133) k = some (w (134 + k)) := by
  rcases (by omega : k = 0 ∨ k = 1 ∨ k = 2) with e | e | e <;> subst e
  · exact h.r133_0
  · exact h.r133_1
  · exact h.r133_2
theorem cp_GA.w139 (h : cp_GA G w) (hk : k < 3) : G (w (139 + k)) = (11100, 81) := by
  rcases (by omega : k = 0 ∨ k = 1 ∨ k = 2) with e | e | e <;> subst e
  · exact h.g139
  · exact h.g140
  · exact h.g141
theorem cp_BA.w139 (h : cp_BA M w) (hk : k < 3) : M.2.2 (w 138) k = some (w (139 + k)) := by
  rcases (by omega : k = 0 ∨ k = 1 ∨ k = 2) with e | e | e <;> subst e
  · exact h.r138_0
  · exact h.r138_1
  · exact h.r138_2
theorem cp_GA.ne (h : cp_GA G w) (hi : a < 361) (hj : b < 361) (e : a ≠ b) : w a ≠ w b := fun q => e (h.1 a b hi hj q)
abbrev cc_ne (w : Nat → Nat) (a : Nat) : Prop := a ≠ w 125 ∧ a ≠ w 128 ∧ a ≠ w 144 ∧ a ≠ w 145
theorem cp_GA.nn (h : cp_GA G w) (hi : i < 361) (e : i ≠ 125 ∧ i ≠ 128 ∧ i ≠ 144 ∧ i ≠ 145) : cc_ne w (w i) := ⟨h.ne hi (by decide) e.1, h.ne hi (by decide) e.2.1, h.ne hi (by decide) e.2.2.1, h.ne hi (by decide) e.2.2.2⟩
theorem cp_GA.n127 (h : cp_GA G w) : cc_ne w (w 127) := h.nn (by decide) (by decide)
theorem cp_GA.n137 (h : cp_GA G w) : cc_ne w (w 137) := h.nn (by decide) (by decide)
theorem cp_GA.n142 (h : cp_GA G w) : cc_ne w (w 142) := h.nn (by decide) (by decide)
theorem cp_GA.n143 (h : cp_GA G w) : cc_ne w (w 143) := h.nn (by decide) (by decide)
theorem cp_GA.n130 (h : cp_GA G w) (hk : k < 3) : cc_ne w (w (130 + k)) := h.nn (by omega) (by omega)
theorem cp_GA.n134 (h : cp_GA G w) (hk : k < 3) : cc_ne w (w (134 + k)) := h.nn (by omega) (by omega)
theorem cp_GA.n139 (h : cp_GA G w) (hk : k < 3) : cc_ne w (w (139 + k)) := h.nn (by omega) (by omega)
/-- what is laid out ahead of the search -/
def cc_K (H : Nat → Int) (M : mj_M) (w : Nat → Nat) : Prop := M.1 (w 125) 5 = H 0 ∧ M.1 (w 125) 6 = H 1 ∧ M.1 (w 125) 15 = ((cs_t H ^ 4 : Nat) : Int) ∧ (∀ k, k < cs_t H → M.1 (w 127) k = H (10 + 9 * k)) ∧ (∀ k j, k < cs_t H → j < 12 → M.1 (w (130 + k)) j = cs_gain H k j) ∧ (∀ k j, k < cs_t H → j ≤ 12 → M.1 (w (134 + k)) j = cs_all H k (12 - j) j) ∧ (∀ j, j ≤ 12 → M.1 (w 137) j = cs_bestof H (12 - j) j) ∧ (∀ k i, k < cs_t H → i < cs_t H ^ 4 → M.1 (w (139 + k)) i = cw_g H k 4 8 i) ∧ (∀ i, i < cs_t H ^ 4 → M.1 (w 142) i = cw_c H 4 i) ∧ (∀ i, i < cs_t H ^ 4 → M.1 (w 143) i = ((i / cs_t H ^ 3 : Nat) : Int))
theorem cc_K.br (h : cc_K H M w) (hk : k < cs_t H) : M.1 (w 127) k = H (10 + 9 * k) := h.2.2.2.1 k hk
theorem cc_K.gn (h : cc_K H M w) (hk : k < cs_t H) (hj : j < 12) : M.1 (w (130 + k)) j = cs_gain H k j := h.2.2.2.2.1 k j hk hj
theorem cc_K.rs (h : cc_K H M w) (hk : k < cs_t H) (hj : j ≤ 12) : M.1 (w (134 + k)) j = cs_all H k (12 - j) j := h.2.2.2.2.2.1 k j hk hj
theorem cc_K.rb (h : cc_K H M w) (hj : j ≤ 12) : M.1 (w 137) j = cs_bestof H (12 - j) j := h.2.2.2.2.2.2.1 j hj
theorem cc_K.tg (h : cc_K H M w) (hk : k < cs_t H) (hi : i < cs_t H ^ 4) : M.1 (w (139 + k)) i = cw_g H k 4 8 i := h.2.2.2.2.2.2.2.1 k i hk hi
theorem cc_K.tc (h : cc_K H M w) (hi : i < cs_t H ^ 4) : M.1 (w 142) i = cw_c H 4 i := h.2.2.2.2.2.2.2.2.1 i hi
theorem cc_K.tt (h : cc_K H M w) (hi : i < cs_t H ^ 4) : M.1 (w 143) i = ((i / cs_t H ^ 3 : Nat) : Int) := h.2.2.2.2.2.2.2.2.2 i hi
/-- the class amid the search -/
def cc_C (w : Nat → Nat) (M0 : mj_M) (LA PA BE : Nat → Int) (bp : Int) (M : mj_M) : Prop := M.2 = M0.2 ∧ (∀ a, cc_ne w a → M.1 a = M0.1 a) ∧ (∀ k, k ≠ 18 → M.1 (w 125) k = M0.1 (w 125) k) ∧ M.1 (w 125) 18 = bp ∧ (∀ k, k < 3 → M.1 (w 128) k = LA k) ∧ (∀ k, k < 12 → M.1 (w 144) k = PA k) ∧ (∀ k, k < 12 → M.1 (w 145) k = BE k)
theorem cc_C.re : cc_C w M (M.1 (w 128)) (M.1 (w 144)) (M.1 (w 145)) (M.1 (w 125) 18) M := ⟨rfl, fun _ _ => rfl, fun _ _ => rfl, rfl, fun _ _ => rfl, fun _ _ => rfl, fun _ _ => rfl⟩
theorem cc_C.r (h : cc_C w M0 LA PA BE bp M) (e : M0.2.2 a k = some b) : M.2.2 a k = some b := by rw [h.1]; exact e
theorem cc_C.o (h : cc_C w M0 LA PA BE bp M) (n : cc_ne w a) : M.1 a k = M0.1 a k := by rw [h.2.1 a n]
theorem cc_C.la (h : cc_C w M0 LA PA BE bp M) (e : ∀ k, k < 3 → LA k = LA2 k) : cc_C w M0 LA2 PA BE bp M := ⟨h.1, h.2.1, h.2.2.1, h.2.2.2.1, fun k hk => (h.2.2.2.2.1 k hk).trans (e k hk), h.2.2.2.2.2⟩
theorem cc_C.h18 (h : cc_C w M0 LA PA BE bp M) (ga : cp_GA G w) : cc_C w M0 LA PA BE v (mj_p0 M (w 125) 18 v) :=
  ⟨h.1, fun a n => (wz_c n.1).trans (h.2.1 a n), fun k hk => (hn_n (Or.inr hk)).trans (h.2.2.1 k hk), hn_s, fun k hk => (hn_n (Or.inl (ga.ne (by decide) (by decide) (by decide)))).trans (h.2.2.2.2.1 k hk), fun k hk => (hn_n (Or.inl (ga.ne (by decide) (by decide) (by decide)))).trans (h.2.2.2.2.2.1 k hk), fun k hk => (hn_n (Or.inl (ga.ne (by decide) (by decide) (by decide)))).trans (h.2.2.2.2.2.2 k hk)⟩
theorem cc_C.h128 (h : cc_C w M0 LA PA BE bp M) (ga : cp_GA G w) : cc_C w M0 (rv_up LA j v) PA BE bp (mj_p0 M (w 128) j v) :=
  ⟨h.1, fun a n => (wz_c n.2.1).trans (h.2.1 a n), fun k hk => (hn_n (Or.inl (ga.ne (by decide) (by decide) (by decide)))).trans (h.2.2.1 k hk), (hn_n (Or.inl (ga.ne (by decide) (by decide) (by decide)))).trans h.2.2.2.1, cp_up h.2.2.2.2.1, fun k hk => (hn_n (Or.inl (ga.ne (by decide) (by decide) (by decide)))).trans (h.2.2.2.2.2.1 k hk), fun k hk => (hn_n (Or.inl (ga.ne (by decide) (by decide) (by decide)))).trans (h.2.2.2.2.2.2 k hk)⟩
theorem cc_C.h144 (h : cc_C w M0 LA PA BE bp M) (ga : cp_GA G w) : cc_C w M0 LA (rv_up PA j v) BE bp (mj_p0 M (w 144) j v) :=
  ⟨h.1, fun a n => (wz_c n.2.2.1).trans (h.2.1 a n), fun k hk => (hn_n (Or.inl (ga.ne (by decide) (by decide) (by decide)))).trans (h.2.2.1 k hk), (hn_n (Or.inl (ga.ne (by decide) (by decide) (by decide)))).trans h.2.2.2.1, fun k hk => (hn_n (Or.inl (ga.ne (by decide) (by decide) (by decide)))).trans (h.2.2.2.2.1 k hk), cp_up h.2.2.2.2.2.1, fun k hk => (hn_n (Or.inl (ga.ne (by decide) (by decide) (by decide)))).trans (h.2.2.2.2.2.2 k hk)⟩
theorem cc_C.h145 (h : cc_C w M0 LA PA BE bp M) (ga : cp_GA G w) : cc_C w M0 LA PA (rv_up BE j v) bp (mj_p0 M (w 145) j v) :=
  ⟨h.1, fun a n => (wz_c n.2.2.2).trans (h.2.1 a n), fun k hk => (hn_n (Or.inl (ga.ne (by decide) (by decide) (by decide)))).trans (h.2.2.1 k hk), (hn_n (Or.inl (ga.ne (by decide) (by decide) (by decide)))).trans h.2.2.2.1, fun k hk => (hn_n (Or.inl (ga.ne (by decide) (by decide) (by decide)))).trans (h.2.2.2.2.1 k hk), fun k hk => (hn_n (Or.inl (ga.ne (by decide) (by decide) (by decide)))).trans (h.2.2.2.2.2.1 k hk), cp_up h.2.2.2.2.2.2⟩
end CG
theorem r_X0_costOf {G : mj_G} {M0 : mj_M} {w : Nat → Nat} {H : Nat → Int} {Q : mj_P} {d : Nat} (ga : cp_GA G w) (gb : cp_BA M0 w) (hK : cc_K H M0 w) (hr : rv_r4 H 0) (t1 : 1 ≤ H 0) (t3 : H 0 ≤ 3) {M : mj_M} {LA PA BE : Nat → Int} {bp : Int} (hC : cc_C w M0 LA PA BE bp M) {fr to : Int} (f0 : 0 ≤ fr) (f3 : fr ≤ H 0) (t0 : 0 ≤ to) (tt : to < H 0) (h : Q (some (.inl (cs_cost H fr.toNat to.toNat))) G M) : mj_R mj_tab (d + 1) 1 [.inr (.inr (some (w 125))), .inl fr, .inl to] G M Q := by
  have et := cs_te hr
  have b1 := cs_r1 hr
  have tb := cs_rt hr (j := (9 * to + 10).toNat) (by omega) (by omega)
  have eb9 : 10 + 9 * to.toNat = (9 * to + 10).toNat := by omega
  refine ⟨Nat.le_of_ble_eq_true rfl, ?_⟩
  show wz d mt_X0_costOf.2.2.2.2.1 Q mt_X0_costOf.2.2.2.2.1 [some (.inr (.inr (some (w 125)))), some (.inl fr), some (.inl to)] [] G M _ _
  refine w_iln rfl ?_
  refine w_iln rfl ?_
  refine w_cmne (fun c1 => ?_) (fun c1 => ?_)
  · skip
    refine w_aln rfl ?_
    refine w_gi ga.g125 rfl (by decide) rfl ((hC.2.2.1 6 (by decide)).trans hK.2.1) ?_
    refine w_iln rfl ?_
    refine w_iln rfl ?_
    refine w_sub ⟨by show (-2147483648 : Int) ≤ fr - to; omega, by show fr - to < (2147483648 : Int); omega⟩ ?_
    refine w_abs (Nat.le_of_ble_eq_true rfl) ?_
    intro z2 fz2 gz2
    have mb3 := cs_mul_b (u := (H 1)) (z := z2) (n := 3) (by omega) (by omega) (by omega) (by omega)
    refine w_mul ⟨by show (-2147483648 : Int) ≤ (H 1) * z2; omega, by show (H 1) * z2 < (2147483648 : Int); omega⟩ ?_
    refine w_aln rfl ?_
    refine w_gr ga.g125 rfl (by decide) rfl (hC.r (gb.r125_7)) ?_
    refine w_iln rfl ?_
    refine w_iald (v := (H (9 * to + 10).toNat)) ga.g127 rfl (by show (0 : Int) ≤ to; omega) (by show to < ((3 : Nat) : Int); omega) ((hC.o ga.n127).trans ((hK.br (by omega)).trans (congrArg H (by omega)))) ?_
    refine w_add ⟨by show (-2147483648 : Int) ≤ ((H 1) * z2) + (H (9 * to + 10).toNat); omega, by show ((H 1) * z2) + (H (9 * to + 10).toNat) < (2147483648 : Int); omega⟩ ?_
    have ev : ((H 1) * z2) + (H (9 * to + 10).toNat) = cs_cost H fr.toNat to.toNat := cs_cost_i (z := z2) (by unfold cs_d; split <;> omega) (by rw [if_pos ⟨by omega, by omega⟩, eb9])
    exact w_iret (fun q => by cases q) (by rw [ev]; exact h)
  · skip
    refine w_ic ?_
    refine w_goto ?_
    have ev : (0 : Int) = cs_cost H fr.toNat to.toNat := by rw [show fr.toNat = to.toNat by omega, cs_cost_s]
    exact w_iret (fun q => by cases q) (by rw [ev]; exact h)
theorem r_la {G : mj_G} {M0 : mj_M} {w : Nat → Nat} {H : Nat → Int} {Q : mj_P} {d : Nat} (ga : cp_GA G w) (gb : cp_BA M0 w) (hK : cc_K H M0 w) (hr : rv_r4 H 0) (t1 : 1 ≤ H 0) (t3 : H 0 ≤ 3) {M : mj_M} {LA PA BE : Nat → Int} {bp : Int} (hC : cc_C w M0 LA PA BE bp M) (h1 : (∃ k, k < cs_t H ∧ 0 < LA k) → Q (some (.inl 1)) G M) (h0 : cs_met H LA → Q (some (.inl 0)) G M) : ∀ (n : Nat) (k : Int) (cb sb : Nat), k + n = H 0 → 0 ≤ k → (∀ j : Nat, (j : Int) < k → LA j ≤ 0) → wz d mt_X0_lacksAny.2.2.2.2.1 Q (mt_X0_lacksAny.2.2.2.2.1.drop 2) [some (.inr (.inr (some (w 125)))), some (.inl k)] [] G M cb sb := by
  have et := cs_te hr
  have b1 := cs_r1 hr
  intro n
  induction n with
  | zero =>
    intro k cb sb e k0 hk
    refine w_iln rfl ?_
    refine w_aln rfl ?_
    refine w_gi ga.g125 rfl (by decide) rfl ((hC.2.2.1 5 (by decide)).trans hK.1) ?_
    refine w_cmge (fun c1 => ?_) (fun c1 => ?_)
    · skip
      refine w_ic ?_
      exact w_iret (fun _ => Or.inl rfl) (h0 (fun j hj => hk j (by omega)))
    · exfalso; omega
  | succ n ih =>
    intro k cb sb e k0 hk
    refine w_iln rfl ?_
    refine w_aln rfl ?_
    refine w_gi ga.g125 rfl (by decide) rfl ((hC.2.2.1 5 (by decide)).trans hK.1) ?_
    refine w_cmge (fun c1 => ?_) (fun c1 => ?_)
    · exfalso; omega
    · skip
      refine w_aln rfl ?_
      refine w_gr ga.g125 rfl (by decide) rfl (hC.r (gb.r125_8)) ?_
      refine w_iln rfl ?_
      refine w_iald (v := (LA k.toNat)) ga.g128 rfl (by show (0 : Int) ≤ k; omega) (by show k < ((3 : Nat) : Int); omega) (hC.2.2.2.2.1 _ (by show k.toNat < 3; omega)) ?_
      refine w_ifle (fun c2 => ?_) (fun c2 => ?_)
      · skip
        refine w_ii rfl ⟨by show (-2147483648 : Int) ≤ k + 1; omega, by show k + 1 < (2147483648 : Int); omega⟩ ?_
        show wz _ _ _ _ [some (.inr (.inr (some (w 125)))), some (.inl (k + 1))] _ _ _ _ _
        refine w_goto ?_
        exact ih (k + 1) _ _ (by omega) (by omega) (fun j hj => by
                  by_cases ej : (j : Int) = k
                  · have e2 : j = k.toNat := by omega
                    subst e2; omega
                  · exact hk j (by omega))
      · skip
        refine w_ic ?_
        exact w_iret (fun _ => Or.inr rfl) (h1 ⟨k.toNat, by omega, by omega⟩)
theorem r_X0_lacksAny {G : mj_G} {M0 : mj_M} {w : Nat → Nat} {H : Nat → Int} {Q : mj_P} {d : Nat} (ga : cp_GA G w) (gb : cp_BA M0 w) (hK : cc_K H M0 w) (hr : rv_r4 H 0) (t1 : 1 ≤ H 0) (t3 : H 0 ≤ 3) {M : mj_M} {LA PA BE : Nat → Int} {bp : Int} (hC : cc_C w M0 LA PA BE bp M) (h1 : (∃ k, k < cs_t H ∧ 0 < LA k) → Q (some (.inl 1)) G M) (h0 : cs_met H LA → Q (some (.inl 0)) G M) : mj_R mj_tab (d + 1) 6 [.inr (.inr (some (w 125)))] G M Q := by
  have et := cs_te hr
  refine ⟨Nat.le_of_ble_eq_true rfl, ?_⟩
  show wz d mt_X0_lacksAny.2.2.2.2.1 Q mt_X0_lacksAny.2.2.2.2.1 [some (.inr (.inr (some (w 125)))), none] [] G M _ _
  refine w_ic ?_
  refine w_isn ?_
  exact r_la ga gb hK hr t1 t3 hC h1 h0 (cs_t H) 0 _ _ (by omega) (by decide) (fun j hj => absurd hj (by omega))
theorem cs_bo_9 {H : Nat → Int} (h : rv_r4 H 0) : ∀ (r m : Nat), m + r ≤ 12 → 0 ≤ cs_bestof H r m ∧ cs_bestof H r m ≤ 999 * r
  | 0, _, _ => ⟨Int.le_refl _, Int.le_refl _⟩
  | r + 1, m, e => by
    have h1 := cs_bo_9 h r (m + 1) (by omega)
    have h2 : ∀ n, n ≤ 8 → 0 ≤ cs_most H m n ∧ cs_most H m n ≤ 999 := by
      intro n
      induction n with
      | zero => exact fun _ => ⟨Int.le_refl _, by show (0 : Int) ≤ 999; decide⟩
      | succ n ih =>
        intro hn
        have h3 := ih (by omega)
        have h4 := cs_gain_9 h (k := n) (m := m) (by omega) (by omega)
        show 0 ≤ max (cs_most H m n) (cs_gain H n m) ∧ max (cs_most H m n) (cs_gain H n m) ≤ 999
        omega
    have h3 := h2 (cs_t H) (by have := cs_te h; have := h.1; omega)
    show 0 ≤ cs_bestof H r (m + 1) + cs_most H m (cs_t H) ∧ cs_bestof H r (m + 1) + cs_most H m (cs_t H) ≤ _
    omega
theorem r_cb2 {G : mj_G} {M0 : mj_M} {w : Nat → Nat} {H : Nat → Int} {Q : mj_P} {d : Nat} (ga : cp_GA G w) (gb : cp_BA M0 w) (hK : cc_K H M0 w) (hr : rv_r4 H 0) (t1 : 1 ≤ H 0) (t3 : H 0 ≤ 3) {M : mj_M} {LA PA BE : Nat → Int} {bp : Int} (hC : cc_C w M0 LA PA BE bp M) {mi : Int} (m0 : 0 ≤ mi) (m12 : mi ≤ 12) (hl : ∀ k : Nat, (k : Int) < H 0 → -20000 ≤ LA k ∧ LA k ≤ 20000) (h1 : Q (some (.inl 1)) G M) (h0 : ((∃ k, k < cs_t H ∧ cs_all H k (12 - mi.toNat) mi.toNat < LA k) ∨ cs_bestof H (12 - mi.toNat) mi.toNat < cs_sum LA (cs_t H)) → Q (some (.inl 0)) G M) : ∀ (n : Nat) (k : Int) (al : Int) (cb sb : Nat), k + n = H 0 → 0 ≤ k → al = cs_sum LA k.toNat → 0 ≤ al → al ≤ 20000 * k → wz d mt_X0_canBe.2.2.2.2.1 Q (mt_X0_canBe.2.2.2.2.1.drop 4) [some (.inr (.inr (some (w 125)))), some (.inl mi), some (.inl al), some (.inl k)] [] G M cb sb := by
  have et := cs_te hr
  have b1 := cs_r1 hr
  have bo := cs_bo_9 hr (12 - mi.toNat) mi.toNat (by omega)
  intro n
  induction n with
  | zero =>
    intro k al cb sb e k0 eal a0 a1
    refine w_iln rfl ?_
    refine w_aln rfl ?_
    refine w_gi ga.g125 rfl (by decide) rfl ((hC.2.2.1 5 (by decide)).trans hK.1) ?_
    refine w_cmge (fun c1 => ?_) (fun c1 => ?_)
    · skip
      refine w_iln rfl ?_
      refine w_aln rfl ?_
      refine w_gr ga.g125 rfl (by decide) rfl (hC.r (gb.r125_11)) ?_
      refine w_iln rfl ?_
      refine w_iald (v := (cs_bestof H (12 - mi.toNat) mi.toNat)) ga.g137 rfl (by show (0 : Int) ≤ mi; omega) (by show mi < ((13 : Nat) : Int); omega) ((hC.o ga.n137).trans (hK.rb (by omega))) ?_
      refine w_cmgt (fun c2 => ?_) (fun c2 => ?_)
      · skip
        refine w_ic ?_
        exact w_iret (fun _ => Or.inl rfl) (h0 (Or.inr (by rw [show cs_t H = k.toNat by omega, ← eal]; omega)))
      · skip
        refine w_ic ?_
        refine w_goto ?_
        exact w_iret (fun _ => Or.inr rfl) h1
    · exfalso; omega
  | succ n ih =>
    intro k al cb sb e k0 eal a0 a1
    have lk := hl k.toNat (by omega)
    have ak := cs_all_9 hr (k := k.toNat) (by omega) (12 - mi.toNat) mi.toNat (by omega)
    refine w_iln rfl ?_
    refine w_aln rfl ?_
    refine w_gi ga.g125 rfl (by decide) rfl ((hC.2.2.1 5 (by decide)).trans hK.1) ?_
    refine w_cmge (fun c1 => ?_) (fun c1 => ?_)
    · exfalso; omega
    · skip
      refine w_aln rfl ?_
      refine w_gr ga.g125 rfl (by decide) rfl (hC.r (gb.r125_8)) ?_
      refine w_iln rfl ?_
      refine w_iald (v := (LA k.toNat)) ga.g128 rfl (by show (0 : Int) ≤ k; omega) (by show k < ((3 : Nat) : Int); omega) (hC.2.2.2.2.1 _ (by show k.toNat < 3; omega)) ?_
      refine w_aln rfl ?_
      refine w_gr ga.g125 rfl (by decide) rfl (hC.r (gb.r125_10)) ?_
      refine w_iln rfl ?_
      refine w_aald ga.g133 rfl (by show (0 : Int) ≤ k; omega) (by show k < ((3 : Nat) : Int); omega) (hC.r (gb.w134 (by show k.toNat < 3; omega))) ?_
      refine w_iln rfl ?_
      refine w_iald (v := (cs_all H k.toNat (12 - mi.toNat) mi.toNat)) (ga.w134 (by show k.toNat < 3; omega)) rfl (by show (0 : Int) ≤ mi; omega) (by show mi < ((13 : Nat) : Int); omega) ((hC.o (ga.n134 (by omega))).trans (hK.rs (by omega) (by omega))) ?_
      refine w_cmle (fun c2 => ?_) (fun c2 => ?_)
      · skip
        refine w_iln rfl ?_
        refine w_ic ?_
        refine w_aln rfl ?_
        refine w_gr ga.g125 rfl (by decide) rfl (hC.r (gb.r125_8)) ?_
        refine w_iln rfl ?_
        refine w_iald (v := (LA k.toNat)) ga.g128 rfl (by show (0 : Int) ≤ k; omega) (by show k < ((3 : Nat) : Int); omega) (hC.2.2.2.2.1 _ (by show k.toNat < 3; omega)) ?_
        refine w_max (Nat.le_of_ble_eq_true rfl) ?_
        intro z3 fz3 gz3
        refine w_add ⟨by show (-2147483648 : Int) ≤ al + z3; omega, by show al + z3 < (2147483648 : Int); omega⟩ ?_
        refine w_isn ?_
        show wz _ _ _ _ [some (.inr (.inr (some (w 125)))), some (.inl mi), some (.inl (al + z3)), some (.inl k)] _ _ _ _ _
        refine w_ii rfl ⟨by show (-2147483648 : Int) ≤ k + 1; omega, by show k + 1 < (2147483648 : Int); omega⟩ ?_
        show wz _ _ _ _ [some (.inr (.inr (some (w 125)))), some (.inl mi), some (.inl (al + z3)), some (.inl (k + 1))] _ _ _ _ _
        refine w_goto ?_
        refine ih (k + 1) _ _ _ (by omega) (by omega) ?_ (by omega) (by omega)
        rw [show (k + 1).toNat = k.toNat + 1 by omega]
        show al + z3 = cs_sum LA k.toNat + max 0 (LA k.toNat)
        omega
      · skip
        refine w_ic ?_
        exact w_iret (fun _ => Or.inl rfl) (h0 (Or.inl ⟨k.toNat, by omega, by omega⟩))
theorem r_X0_canBe {G : mj_G} {M0 : mj_M} {w : Nat → Nat} {H : Nat → Int} {Q : mj_P} {d : Nat} (ga : cp_GA G w) (gb : cp_BA M0 w) (hK : cc_K H M0 w) (hr : rv_r4 H 0) (t1 : 1 ≤ H 0) (t3 : H 0 ≤ 3) {M : mj_M} {LA PA BE : Nat → Int} {bp : Int} (hC : cc_C w M0 LA PA BE bp M) {mi : Int} (m0 : 0 ≤ mi) (m12 : mi ≤ 12) (hl : ∀ k : Nat, (k : Int) < H 0 → -20000 ≤ LA k ∧ LA k ≤ 20000) (h1 : Q (some (.inl 1)) G M) (h0 : ((∃ k, k < cs_t H ∧ cs_all H k (12 - mi.toNat) mi.toNat < LA k) ∨ cs_bestof H (12 - mi.toNat) mi.toNat < cs_sum LA (cs_t H)) → Q (some (.inl 0)) G M) : mj_R mj_tab (d + 1) 0 [.inr (.inr (some (w 125))), .inl mi] G M Q := by
  have et := cs_te hr
  refine ⟨Nat.le_of_ble_eq_true rfl, ?_⟩
  show wz d mt_X0_canBe.2.2.2.2.1 Q mt_X0_canBe.2.2.2.2.1 [some (.inr (.inr (some (w 125)))), some (.inl mi), none, none] [] G M _ _
  refine w_ic ?_
  refine w_isn ?_
  refine w_ic ?_
  refine w_isn ?_
  exact r_cb2 ga gb hK hr t1 t3 hC m0 m12 hl h1 h0 (cs_t H) 0 0 _ _ (by omega) (by decide) rfl (by decide) (by decide)
theorem cs_bk_9 (b : Nat → Bool) (a : Nat) : ∀ n, cs_bk b a n ≤ a
  | 0 => Nat.zero_le _
  | n + 1 => by
    have := cs_bk_9 b a n
    show (if b n = true then max (cs_bk b a n) (a - n) else cs_bk b a n) ≤ a
    split <;> omega
theorem cs_ah_9 (b : Nat → Bool) (a : Nat) : ∀ n, cs_ah b a n ≤ n
  | 0 => Nat.zero_le _
  | n + 1 => by
    have := cs_ah_9 b a n
    show (if b n = true then max (cs_ah b a n) (n - a) else cs_ah b a n) ≤ n + 1
    split <;> omega
theorem cs_LB_9 {H : Nat → Int} (h : rv_r4 H 0) (h3 : H 0 ≤ 3) {b : Nat → Bool} {a : Nat} (ha : a ≤ cs_t H) : 0 ≤ cs_LB H b a ∧ cs_LB H b a ≤ 3888 := by
  have e := cs_te h
  have b1 := cs_r1 h
  have x1 := cs_bk_9 b a (cs_t H)
  have x2 := cs_ah_9 b a (cs_t H)
  have x3 : cs_far b a (cs_t H) ≤ 9 := by unfold cs_far; omega
  have x4 := cs_mul_b b1.1 b1.2 (z := ((cs_far b a (cs_t H) : Nat) : Int)) (n := 9) (by omega) (by omega)
  have x5 : ∀ n, n ≤ cs_t H → 0 ≤ cs_tp H b a n ∧ cs_tp H b a n ≤ 999 * n := by
    intro n
    induction n with
    | zero => exact fun _ => ⟨Int.le_refl _, Int.le_refl _⟩
    | succ n ih =>
      intro hn
      have h3 := ih (by omega)
      have h4 := cs_rt h (j := 10 + 9 * n) (by omega) (by omega)
      show 0 ≤ cs_tp H b a n + _ ∧ cs_tp H b a n + _ ≤ _
      split <;> omega
  have x6 := x5 _ (Nat.le_refl _)
  unfold cs_LB
  omega
theorem r_lc {G : mj_G} {M0 : mj_M} {w : Nat → Nat} {H : Nat → Int} {Q : mj_P} {d : Nat} (ga : cp_GA G w) (gb : cp_BA M0 w) (hK : cc_K H M0 w) (hr : rv_r4 H 0) (t1 : 1 ≤ H 0) (t3 : H 0 ≤ 3) {M : mj_M} {LA PA BE : Nat → Int} {bp : Int} (hC : cc_C w M0 LA PA BE bp M) {at_ : Int} (a0 : 0 ≤ at_) (a3 : at_ ≤ H 0) (h : Q (some (.inl (cs_LB H (cs_b LA) at_.toNat))) G M) : ∀ (n : Nat) (k bk ah tp : Int) (cb sb : Nat), k + n = H 0 → 0 ≤ k → bk = ((cs_bk (cs_b LA) at_.toNat k.toNat : Nat) : Int) → ah = ((cs_ah (cs_b LA) at_.toNat k.toNat : Nat) : Int) → tp = cs_tp H (cs_b LA) at_.toNat k.toNat → 0 ≤ tp → tp ≤ 999 * k → wz d mt_X0_leastToCome.2.2.2.2.1 Q (mt_X0_leastToCome.2.2.2.2.1.drop 8) [some (.inr (.inr (some (w 125)))), some (.inl at_), some (.inl bk), some (.inl ah), some (.inl tp), some (.inl k)] [] G M cb sb := by
  have et := cs_te hr
  have b1 := cs_r1 hr
  have bk9 := fun n => cs_bk_9 (cs_b LA) at_.toNat n
  have ah9 := fun n => cs_ah_9 (cs_b LA) at_.toNat n
  intro n
  induction n with
  | zero =>
    intro k bk ah tp cb sb e k0 eb ea ep p0 p1
    have x1 := bk9 k.toNat
    have x2 := ah9 k.toNat
    refine w_il rfl ?_
    refine w_aln rfl ?_
    refine w_gi ga.g125 rfl (by decide) rfl ((hC.2.2.1 5 (by decide)).trans hK.1) ?_
    refine w_cmge (fun c1 => ?_) (fun c1 => ?_)
    · skip
      refine w_il rfl ?_
      refine w_aln rfl ?_
      refine w_gi ga.g125 rfl (by decide) rfl ((hC.2.2.1 6 (by decide)).trans hK.2.1) ?_
      refine w_iln rfl ?_
      refine w_iln rfl ?_
      refine w_add ⟨by show (-2147483648 : Int) ≤ bk + ah; omega, by show bk + ah < (2147483648 : Int); omega⟩ ?_
      refine w_iln rfl ?_
      refine w_iln rfl ?_
      refine w_min (Nat.le_of_ble_eq_true rfl) ?_
      intro z2 fz2 gz2
      refine w_add ⟨by show (-2147483648 : Int) ≤ (bk + ah) + z2; omega, by show (bk + ah) + z2 < (2147483648 : Int); omega⟩ ?_
      have mb3 := cs_mul_b (u := (H 1)) (z := (bk + ah) + z2) (n := 9) (by omega) (by omega) (by omega) (by omega)
      refine w_mul ⟨by show (-2147483648 : Int) ≤ (H 1) * ((bk + ah) + z2); omega, by show (H 1) * ((bk + ah) + z2) < (2147483648 : Int); omega⟩ ?_
      refine w_add ⟨by show (-2147483648 : Int) ≤ tp + ((H 1) * ((bk + ah) + z2)); omega, by show tp + ((H 1) * ((bk + ah) + z2)) < (2147483648 : Int); omega⟩ ?_
      have ev : tp + ((H 1) * ((bk + ah) + z2)) = cs_LB H (cs_b LA) at_.toNat := by
        have ef : (bk + ah) + z2 = ((cs_far (cs_b LA) at_.toNat (cs_t H) : Nat) : Int) := by
          rw [show cs_t H = k.toNat by omega]
          show _ = ((cs_bk (cs_b LA) at_.toNat k.toNat + cs_ah (cs_b LA) at_.toNat k.toNat + min (cs_bk (cs_b LA) at_.toNat k.toNat) (cs_ah (cs_b LA) at_.toNat k.toNat) : Nat) : Int)
          omega
        rw [ef, ep, show k.toNat = cs_t H by omega]
        rfl
      exact w_iret (fun q => by cases q) (by rw [ev]; exact h)
    · exfalso; omega
  | succ n ih =>
    intro k bk ah tp cb sb e k0 eb ea ep p0 p1
    have x1 := bk9 k.toNat
    have x2 := ah9 k.toNat
    have tb := cs_rt hr (j := (9 * k + 10).toNat) (by omega) (by omega)
    have eb9 : 10 + 9 * k.toNat = (9 * k + 10).toNat := by omega
    have e1 : (k + 1).toNat = k.toNat + 1 := by omega
    refine w_il rfl ?_
    refine w_aln rfl ?_
    refine w_gi ga.g125 rfl (by decide) rfl ((hC.2.2.1 5 (by decide)).trans hK.1) ?_
    refine w_cmge (fun c1 => ?_) (fun c1 => ?_)
    · exfalso; omega
    · skip
      refine w_aln rfl ?_
      refine w_gr ga.g125 rfl (by decide) rfl (hC.r (gb.r125_8)) ?_
      refine w_il rfl ?_
      refine w_iald (v := (LA k.toNat)) ga.g128 rfl (by show (0 : Int) ≤ k; omega) (by show k < ((3 : Nat) : Int); omega) (hC.2.2.2.2.1 _ (by show k.toNat < 3; omega)) ?_
      refine w_ifle (fun c2 => ?_) (fun c2 => ?_)
      · skip
        refine w_ii rfl ⟨by show (-2147483648 : Int) ≤ k + 1; omega, by show k + 1 < (2147483648 : Int); omega⟩ ?_
        show wz _ _ _ _ [some (.inr (.inr (some (w 125)))), some (.inl at_), some (.inl bk), some (.inl ah), some (.inl tp), some (.inl (k + 1))] _ _ _ _ _
        refine w_goto ?_
        have hb : cs_b LA k.toNat = false := decide_eq_false (by omega)
        have f1 : cs_bk (cs_b LA) at_.toNat (k.toNat + 1) = cs_bk (cs_b LA) at_.toNat k.toNat := by
          show (if cs_b LA k.toNat = true then _ else _) = _
          rw [hb]; rfl
        have f2 : cs_ah (cs_b LA) at_.toNat (k.toNat + 1) = cs_ah (cs_b LA) at_.toNat k.toNat := by
          show (if cs_b LA k.toNat = true then _ else _) = _
          rw [hb]; rfl
        have f3 : cs_tp H (cs_b LA) at_.toNat (k.toNat + 1) = cs_tp H (cs_b LA) at_.toNat k.toNat := by
          show cs_tp H (cs_b LA) at_.toNat k.toNat + (if cs_b LA k.toNat = true ∧ k.toNat ≠ at_.toNat then H (10 + 9 * k.toNat) else 0) = _
          rw [if_neg (fun z => by rw [hb] at z; cases z.1), Int.add_zero]
        exact ih (k + 1) _ _ _ _ _ (by omega) (by omega) (by rw [e1, f1]; omega) (by rw [e1, f2]; omega) (by rw [e1, f3]; omega) (by omega) (by omega)
      · skip
        refine w_il rfl ?_
        refine w_iln rfl ?_
        refine w_cmeq (fun c3 => ?_) (fun c3 => ?_)
        · skip
          refine w_ii rfl ⟨by show (-2147483648 : Int) ≤ k + 1; omega, by show k + 1 < (2147483648 : Int); omega⟩ ?_
          show wz _ _ _ _ [some (.inr (.inr (some (w 125)))), some (.inl at_), some (.inl bk), some (.inl ah), some (.inl tp), some (.inl (k + 1))] _ _ _ _ _
          refine w_goto ?_
          have hb : cs_b LA k.toNat = true := decide_eq_true (by omega)
          have f1 : cs_bk (cs_b LA) at_.toNat (k.toNat + 1) = max (cs_bk (cs_b LA) at_.toNat k.toNat) (at_.toNat - k.toNat) := by
            show (if cs_b LA k.toNat = true then _ else _) = _
            rw [hb]; rfl
          have f2 : cs_ah (cs_b LA) at_.toNat (k.toNat + 1) = max (cs_ah (cs_b LA) at_.toNat k.toNat) (k.toNat - at_.toNat) := by
            show (if cs_b LA k.toNat = true then _ else _) = _
            rw [hb]; rfl
          have f3 : cs_tp H (cs_b LA) at_.toNat (k.toNat + 1) = cs_tp H (cs_b LA) at_.toNat k.toNat := by
            show cs_tp H (cs_b LA) at_.toNat k.toNat + (if cs_b LA k.toNat = true ∧ k.toNat ≠ at_.toNat then H (10 + 9 * k.toNat) else 0) = _
            rw [if_neg (fun z => z.2 (by omega)), Int.add_zero]
          exact ih (k + 1) _ _ _ _ _ (by omega) (by omega) (by rw [e1, f1]; omega) (by rw [e1, f2]; omega) (by rw [e1, f3]; omega) (by omega) (by omega)
        · skip
          refine w_il rfl ?_
          refine w_aln rfl ?_
          refine w_gr ga.g125 rfl (by decide) rfl (hC.r (gb.r125_7)) ?_
          refine w_il rfl ?_
          refine w_iald (v := (H (9 * k + 10).toNat)) ga.g127 rfl (by show (0 : Int) ≤ k; omega) (by show k < ((3 : Nat) : Int); omega) ((hC.o ga.n127).trans ((hK.br (by omega)).trans (congrArg H (by omega)))) ?_
          refine w_add ⟨by show (-2147483648 : Int) ≤ tp + (H (9 * k + 10).toNat); omega, by show tp + (H (9 * k + 10).toNat) < (2147483648 : Int); omega⟩ ?_
          refine w_is ?_
          show wz _ _ _ _ [some (.inr (.inr (some (w 125)))), some (.inl at_), some (.inl bk), some (.inl ah), some (.inl (tp + (H (9 * k + 10).toNat))), some (.inl k)] _ _ _ _ _
          refine w_iln rfl ?_
          refine w_iln rfl ?_
          refine w_il rfl ?_
          refine w_sub ⟨by show (-2147483648 : Int) ≤ at_ - k; omega, by show at_ - k < (2147483648 : Int); omega⟩ ?_
          refine w_max (Nat.le_of_ble_eq_true rfl) ?_
          intro z4 fz4 gz4
          refine w_isn ?_
          show wz _ _ _ _ [some (.inr (.inr (some (w 125)))), some (.inl at_), some (.inl z4), some (.inl ah), some (.inl (tp + (H (9 * k + 10).toNat))), some (.inl k)] _ _ _ _ _
          refine w_iln rfl ?_
          refine w_il rfl ?_
          refine w_iln rfl ?_
          refine w_sub ⟨by show (-2147483648 : Int) ≤ k - at_; omega, by show k - at_ < (2147483648 : Int); omega⟩ ?_
          refine w_max (Nat.le_of_ble_eq_true rfl) ?_
          intro z5 fz5 gz5
          refine w_isn ?_
          show wz _ _ _ _ [some (.inr (.inr (some (w 125)))), some (.inl at_), some (.inl z4), some (.inl z5), some (.inl (tp + (H (9 * k + 10).toNat))), some (.inl k)] _ _ _ _ _
          refine w_ii rfl ⟨by show (-2147483648 : Int) ≤ k + 1; omega, by show k + 1 < (2147483648 : Int); omega⟩ ?_
          show wz _ _ _ _ [some (.inr (.inr (some (w 125)))), some (.inl at_), some (.inl z4), some (.inl z5), some (.inl (tp + (H (9 * k + 10).toNat))), some (.inl (k + 1))] _ _ _ _ _
          refine w_goto ?_
          have hb : cs_b LA k.toNat = true := decide_eq_true (by omega)
          have f1 : cs_bk (cs_b LA) at_.toNat (k.toNat + 1) = max (cs_bk (cs_b LA) at_.toNat k.toNat) (at_.toNat - k.toNat) := by
            show (if cs_b LA k.toNat = true then _ else _) = _
            rw [hb]; rfl
          have f2 : cs_ah (cs_b LA) at_.toNat (k.toNat + 1) = max (cs_ah (cs_b LA) at_.toNat k.toNat) (k.toNat - at_.toNat) := by
            show (if cs_b LA k.toNat = true then _ else _) = _
            rw [hb]; rfl
          have f3 : cs_tp H (cs_b LA) at_.toNat (k.toNat + 1) = cs_tp H (cs_b LA) at_.toNat k.toNat + H (9 * k + 10).toNat := by
            show cs_tp H (cs_b LA) at_.toNat k.toNat + (if cs_b LA k.toNat = true ∧ k.toNat ≠ at_.toNat then H (10 + 9 * k.toNat) else 0) = _
            rw [if_pos ⟨hb, by omega⟩, eb9]
          exact ih (k + 1) _ _ _ _ _ (by omega) (by omega) (by rw [e1, f1]; omega) (by rw [e1, f2]; omega) (by rw [e1, f3]; omega) (by omega) (by omega)
theorem r_X0_leastToCome {G : mj_G} {M0 : mj_M} {w : Nat → Nat} {H : Nat → Int} {Q : mj_P} {d : Nat} (ga : cp_GA G w) (gb : cp_BA M0 w) (hK : cc_K H M0 w) (hr : rv_r4 H 0) (t1 : 1 ≤ H 0) (t3 : H 0 ≤ 3) {M : mj_M} {LA PA BE : Nat → Int} {bp : Int} (hC : cc_C w M0 LA PA BE bp M) {at_ : Int} (a0 : 0 ≤ at_) (a3 : at_ ≤ H 0) (h : Q (some (.inl (cs_LB H (cs_b LA) at_.toNat))) G M) : mj_R mj_tab (d + 1) 7 [.inr (.inr (some (w 125))), .inl at_] G M Q := by
  have et := cs_te hr
  refine ⟨Nat.le_of_ble_eq_true rfl, ?_⟩
  show wz d mt_X0_leastToCome.2.2.2.2.1 Q mt_X0_leastToCome.2.2.2.2.1 [some (.inr (.inr (some (w 125)))), some (.inl at_), none, none, none, none] [] G M _ _
  refine w_ic ?_
  refine w_isn ?_
  refine w_ic ?_
  refine w_isn ?_
  refine w_ic ?_
  refine w_is ?_
  refine w_ic ?_
  refine w_is ?_
  exact r_lc ga gb hK hr t1 t3 hC a0 a3 h (cs_t H) 0 0 0 0 _ _ (by omega) (by decide) rfl rfl rfl (by decide) (by decide)
end
