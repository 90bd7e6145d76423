section
/-! ===== the cheapest letting: the search of the reference (laid by a program) ===== -/
theorem cs_cb_cg {H HA HA' : Nat → Int} {m t : Nat} (h : ∀ q, q < t → HA' (3 * m + q) = HA (3 * m + q)) : ∀ n k, k + n ≤ t → cs_cb H HA' m n k = cs_cb H HA m n k
  | 0, _, _ => rfl
  | n + 1, k, e => by
    show (if HA' (3 * m + k) + _ < _ then (0 : Int) else cs_cb H HA' m n (k + 1)) = (if HA (3 * m + k) + _ < _ then (0 : Int) else cs_cb H HA m n (k + 1))
    rw [h k (by omega), cs_cb_cg h n (k + 1) (by omega)]
def cr_at (H TR : Nat → Int) (mi : Int) (a : Nat) : Prop := (mi = 0 ∧ a = cs_t H) ∨ (1 ≤ mi ∧ TR (mi - 1).toNat = cs_code H a)
theorem cs_code_c {H : Nat → Int} {a : Nat} (ha : a ≤ cs_t H) : (a = cs_t H ∧ cs_code H a = 8) ∨ (a < cs_t H ∧ cs_code H a = a) := by
  unfold cs_code; split <;> omega
theorem cs_node_cut {H : Nat → Int} {b : cs_R} {k : Int} {P : Nat → Int} {r m a : Nat} {L : Nat → Int} {n : Nat} (ho : cs_ok H) (hb : cs_le (cs_node H b k P r m a L n) (k + cs_cost H a n)) : cs_node H b k P r m a L (n + 1) = cs_node H b k P r m a L n := by
  rw [cs_node_s]
  exact cs_cut (fun c g => cs_S_0 ho _ _ _ _ _ g) hb
theorem cs_node_n {H : Nat → Int} {b : cs_R} {k : Int} {P : Nat → Int} {r m a : Nat} {L : Nat → Int} (h : cs_S H (r + 1) m a L = none) : b = cs_min b (cs_pre k P m (cs_S H (r + 1) m a L)) := by
  rw [h]; exact (cs_min_none b).symm
/-- the end of a way -/
theorem cs_fin {H P0 : Nat → Int} {b : cs_R} {k best : Int} {P PL PL2 : Nat → Int} {a : Nat} {L : Nat → Int} (hN : cs_N 1000000000 P0 b best PL) (hk : k < best) (hm : cs_met H L) (hP : ∀ j, j < 12 → PL2 j = P j) (k0 : 0 ≤ k) : cs_N 1000000000 P0 (cs_min b (cs_pre k P 12 (cs_S H 0 12 a L))) k PL2 := by
  have hb := hN.b (by decide)
  have e : cs_S H 0 12 a L = some (0, fun _ => 0) := if_pos hm
  rw [e]
  show cs_N 1000000000 P0 (cs_min b (some (k + 0, fun j => if j < 12 then P j else 0))) k PL2
  rw [hN.tk _ rfl (show k + 0 < best by omega)]
  exact ⟨show k + 0 = k by omega, k0, by omega, fun j hj => (hP j hj).trans (if_pos hj).symm⟩
theorem cs_fin_n {H : Nat → Int} {b : cs_R} {k : Int} {P : Nat → Int} {a : Nat} {L : Nat → Int} (hm : ¬ cs_met H L) : b = cs_min b (cs_pre k P 12 (cs_S H 0 12 a L)) := by
  have e : cs_S H 0 12 a L = none := if_neg hm
  rw [e]; exact (cs_min_none b).symm
theorem r_go {G : mj_G} {M0 : mj_M} {m s : Nat} {w : Nat → Nat} {Q : mj_P} {d : Nat} (gr : cp_GR G w) (br : cp_BR M0 w m) (gm : G m = (1012, 0)) (gs : G s = (51100, 537)) (m6 : M0.2.2 m 6 = some s) (hr : rv_r4 (M0.1 s) 0) (t1 : 1 ≤ M0.1 s 0) (t3 : M0.1 s 0 ≤ 3) {P0 : Nat → Int} : ∀ (r : Nat) (mi : Int) (P : Nat → Int) (k : Int) (a : Nat) (L : Nat → Int) (b : cs_R) (best : Int) (TR CO HA PL : Nat → Int) (M : mj_M) (v4 : Option mj_V) (cb sb : Nat), mi + r = 12 → 0 ≤ mi → cr_C w M0 TR CO HA PL M → a ≤ cs_t (M0.1 s) → cr_at (M0.1 s) TR mi a → (∀ j : Nat, (j : Int) < mi → TR j = P j) → CO mi.toNat = k → 0 ≤ k → k ≤ 1296 * mi → (∀ q, q < cs_t (M0.1 s) → L q = M0.1 s (8 + 9 * q) - HA (3 * mi.toNat + q)) → (∀ q : Nat, (q : Int) < M0.1 s 0 → 0 ≤ HA (3 * mi.toNat + q) ∧ HA (3 * mi.toNat + q) ≤ 999 * mi) → (0 < r → TR mi.toNat = -1) → cs_N 1000000000 P0 b best PL → k < best → (∀ (b' : cs_R) (best' mj : Int) (TR' CO' HA' PL' : Nat → Int) (M' : mj_M) (v4' : Option mj_V) (cb sb : Nat), cr_C w M0 TR' CO' HA' PL' M' → (∀ j : Nat, (j : Int) < mi → TR' j = TR j) → (∀ j : Nat, (j : Int) ≤ mi → CO' j = CO j) → (∀ j : Nat, (j : Int) < 3 * mi + 3 → HA' j = HA j) → cs_N 1000000000 P0 b' best' PL' → b' = cs_min b (cs_pre k P mi.toNat (cs_S (M0.1 s) r mi.toNat a L)) → mj + 1 = mi → wz (d + 3) mt_X12_cheapest.2.2.2.2.1 Q (mt_X12_cheapest.2.2.2.2.1.drop 41) [some (.inr (.inr (some m))), some (.inl (M0.1 s 0)), some (.inl best'), some (.inl mj), v4'] [] G M' cb sb) → wz (d + 3) mt_X12_cheapest.2.2.2.2.1 Q (mt_X12_cheapest.2.2.2.2.1.drop 41) [some (.inr (.inr (some m))), some (.inl (M0.1 s 0)), some (.inl best), some (.inl mi), v4] [] G M cb sb := by
  have et := cs_te hr
  have b1 := cs_r1 hr
  have ho := cs_oke hr
  intro r
  induction r with
  | zero =>
    intro mi P k a L b best TR CO HA PL M v4 cb sb e m0 hC ha hat hP hk k0 kb hL hH ht hN hlt h
    obtain rfl : mi = 12 := by omega
    have bb := hN.b (by decide)
    have ek : CO 12 = k := hk
    have hcb := cs_cb_s (H := M0.1 s) (HA := HA) (m := 12) (cs_t (M0.1 s)) 0
    obtain ⟨c0, hc0⟩ : ∃ z, z = cs_cb (M0.1 s) HA 12 (cs_t (M0.1 s)) 0 := ⟨_, rfl⟩
    rw [← hc0] at hcb
    have c01 : c0 = 1 ∨ c0 = 0 := hcb.elim (fun q => Or.inl q.1) (fun q => Or.inr q.1)
    refine w_iln rfl ?_
    refine w_iflt (fun c1 => ?_) (fun c1 => ?_)
    · exfalso; omega
    · skip
      refine w_iln rfl ?_
      refine w_bp ?_
      refine w_cmne (fun c2 => ?_) (fun c2 => ?_)
      · exfalso; omega
      · skip
        refine w_aln rfl ?_
        refine w_gr gm rfl (by decide) rfl (hC.r (br.2.1)) ?_
        refine w_iln rfl ?_
        refine w_iald (v := k) gr.2.1 rfl (by show (0 : Int) ≤ 12; omega) (by show 12 < ((13 : Nat) : Int); omega) ((hC.2.2.2.1 _ (by decide)).trans ek) ?_
        refine w_iln rfl ?_
        refine w_cmge (fun c3 => ?_) (fun c3 => ?_)
        · exfalso; omega
        · skip
          refine w_aln rfl ?_
          refine w_iln rfl ?_
          refine w_cv (st := []) rfl gm rfl (Nat.le_of_ble_eq_true rfl) (fun kk h => h) (r_X12_canBe (d := d) gr br gm gs m6 hr t1 t3 hC (mi := 12) (by decide) (by decide) (fun q hq => ⟨(hH q hq).1, by have := (hH q hq).2; omega⟩) ?_)
          show wz _ _ _ _ _ (.inl (cs_cb (M0.1 s) HA 12 (cs_t (M0.1 s)) 0) :: _) _ _ _ _
          rw [← hc0]
          refine w_ifeq (fun c4 => ?_) (fun c4 => ?_)
          · skip
            refine w_ii rfl ⟨by show (-2147483648 : Int) ≤ 11; omega, by show 11 < (2147483648 : Int); omega⟩ ?_
            show wz _ _ _ _ [some (.inr (.inr (some m))), some (.inl (M0.1 s 0)), some (.inl best), some (.inl 11), v4] _ _ _ _ _
            refine w_goto ?_
            refine h b best _ TR CO HA PL M _ _ _ hC (fun _ _ => rfl) (fun _ _ => rfl) (fun _ _ => rfl) hN (cs_fin_n (fun hm => ?_)) (by omega)
            obtain ⟨-, q, -, hq, hlt2⟩ := hcb.resolve_left (fun z => by omega)
            have h1 := hm q (by omega)
            have h2 := hL q (by omega)
            have h3 : cs_all (M0.1 s) q (12 - 12) 12 = 0 := rfl
            have h4 : HA (3 * (12 : Int).toNat + q) = HA (3 * 12 + q) := rfl
            omega
          · skip
            refine w_aln rfl ?_
            refine w_gr gm rfl (by decide) rfl (hC.r (br.2.1)) ?_
            refine w_iln rfl ?_
            refine w_iald (v := k) gr.2.1 rfl (by show (0 : Int) ≤ 12; omega) (by show 12 < ((13 : Nat) : Int); omega) ((hC.2.2.2.1 _ (by decide)).trans ek) ?_
            refine w_isn ?_
            show wz _ _ _ _ [some (.inr (.inr (some m))), some (.inl (M0.1 s 0)), some (.inl k), some (.inl 12), v4] _ _ _ _ _
            refine w_ic ?_
            refine w_is ?_
            show wz _ _ _ _ [some (.inr (.inr (some m))), some (.inl (M0.1 s 0)), some (.inl k), some (.inl 12), some (.inl 0)] _ _ _ _ _
            have hmet : cs_met (M0.1 s) L := fun q hq => by
              obtain ⟨-, h1⟩ := hcb.resolve_right (fun z => by omega)
              have h1 := h1 q (Nat.zero_le _) (by omega)
              have h2 := hL q hq
              have h3 : cs_all (M0.1 s) q (12 - 12) 12 = 0 := rfl
              have h4 : HA (3 * (12 : Int).toNat + q) = HA (3 * 12 + q) := rfl
              omega
            refine r_pc (d := d + 1) gr br gm gs m6 hr t1 t3 hC 12 0 PL _ _ _ rfl (by decide) hC (fun j hj => absurd hj (by omega)) (fun PL2 M2 v4 cb sb hC2 hp2 => ?_)
            have hN2 := cs_fin (a := a) (L := L) hN hlt hmet (fun j hj => (hp2 j hj).trans (hP j (by omega))) k0
            refine w_ii rfl ⟨by show (-2147483648 : Int) ≤ 11; omega, by show 11 < (2147483648 : Int); omega⟩ ?_
            show wz _ _ _ _ [some (.inr (.inr (some m))), some (.inl (M0.1 s 0)), some (.inl k), some (.inl 11), v4] _ _ _ _ _
            refine w_goto ?_
            exact h _ k _ TR CO HA PL2 M2 _ _ _ hC2 (fun _ _ => rfl) (fun _ _ => rfl) (fun _ _ => rfl) hN2 rfl (by omega)
  | succ r ih =>
    intro mi P k a L b best TR CO HA PL M v4 cb sb e m0 hC ha hat hP hk k0 kb hL hH ht hN hlt h
    have ht1 := ht (by omega)
    have hcb := cs_cb_s (H := M0.1 s) (HA := HA) (m := mi.toNat) (cs_t (M0.1 s)) 0
    have hr12 : 12 - mi.toNat = r + 1 := by omega
    rw [hr12] at hcb
    obtain ⟨c0, hc0⟩ : ∃ z, z = cs_cb (M0.1 s) HA mi.toNat (cs_t (M0.1 s)) 0 := ⟨_, rfl⟩
    rw [← hc0] at hcb
    by_cases hcan : c0 = 0
    · have bb := hN.b (by decide)
      have hnone : cs_S (M0.1 s) (r + 1) mi.toNat a L = none := by
        obtain ⟨-, q, -, hq, hlt2⟩ := hcb.resolve_left (fun z => by omega)
        exact cs_can_n (k := q) (by omega) (by rw [hL q (by omega)]; omega)
      refine w_iln rfl ?_
      refine w_iflt (fun c1 => ?_) (fun c1 => ?_)
      · exfalso; omega
      · skip
        refine w_iln rfl ?_
        refine w_bp ?_
        refine w_cmne (fun c2 => ?_) (fun c2 => ?_)
        · skip
          refine w_aln rfl ?_
          refine w_gr gm rfl (by decide) rfl (hC.r (br.1)) ?_
          refine w_iln rfl ?_
          refine w_aln rfl ?_
          refine w_gr gm rfl (by decide) rfl (hC.r (br.1)) ?_
          refine w_iln rfl ?_
          refine w_iald (v := (TR mi.toNat)) gr.1 rfl (by show (0 : Int) ≤ mi; omega) (by show mi < ((13 : Nat) : Int); omega) (hC.2.2.1 _ (by show mi.toNat < 13; omega)) ?_
          refine w_bp ?_
          refine w_cmne (fun c3 => ?_) (fun c3 => ?_)
          · skip
            refine w_aln rfl ?_
            refine w_gr gm rfl (by decide) rfl (hC.r (br.1)) ?_
            refine w_iln rfl ?_
            refine w_iald (v := (TR mi.toNat)) gr.1 rfl (by show (0 : Int) ≤ mi; omega) (by show mi < ((13 : Nat) : Int); omega) (hC.2.2.1 _ (by show mi.toNat < 13; omega)) ?_
            refine w_ic ?_
            refine w_add ⟨by show (-2147483648 : Int) ≤ (TR mi.toNat) + 1; omega, by show (TR mi.toNat) + 1 < (2147483648 : Int); omega⟩ ?_
            refine w_iln rfl ?_
            refine w_cmne (fun c4 => ?_) (fun c4 => ?_)
            · skip
              refine w_aln rfl ?_
              refine w_gr gm rfl (by decide) rfl (hC.r (br.1)) ?_
              refine w_iln rfl ?_
              refine w_iald (v := (TR mi.toNat)) gr.1 rfl (by show (0 : Int) ≤ mi; omega) (by show mi < ((13 : Nat) : Int); omega) (hC.2.2.1 _ (by show mi.toNat < 13; omega)) ?_
              refine w_ic ?_
              refine w_add ⟨by show (-2147483648 : Int) ≤ (TR mi.toNat) + 1; omega, by show (TR mi.toNat) + 1 < (2147483648 : Int); omega⟩ ?_
              refine w_iast gr.1 rfl (by decide) (by show (0 : Int) ≤ mi; omega) (by show mi < ((13 : Nat) : Int); omega) ?_
              have hC5 := hC.h5 (j := mi.toNat) (v := (TR mi.toNat) + 1) gr
              refine w_aln rfl ?_
              refine w_gr gm rfl (by decide) rfl (hC5.r (br.1)) ?_
              refine w_iln rfl ?_
              refine w_iald (v := (TR mi.toNat) + 1) gr.1 rfl (by show (0 : Int) ≤ mi; omega) (by show mi < ((13 : Nat) : Int); omega) ((hC5.2.2.1 _ (by show mi.toNat < 13; omega)).trans rv_up_s) ?_
              refine w_bp ?_
              refine w_cmgt (fun c6 => ?_) (fun c6 => ?_)
              · exfalso; omega
              · skip
                refine w_aln rfl ?_
                refine w_iln rfl ?_
                refine w_cv (st := []) rfl gm rfl (Nat.le_of_ble_eq_true rfl) (fun kk h => h) (r_X12_canBe (d := d) gr br gm gs m6 hr t1 t3 hC5 (mi := mi) (by omega) (by omega) (fun q hq => ⟨(hH q hq).1, by have := (hH q hq).2; omega⟩) ?_)
                show wz _ _ _ _ _ (.inl (cs_cb (M0.1 s) HA mi.toNat (cs_t (M0.1 s)) 0) :: _) _ _ _ _
                rw [← hc0, hcan]
                refine w_ifne (fun c7 => ?_) (fun c7 => ?_)
                · exfalso; omega
                · skip
                  refine w_ii rfl ⟨by show (-2147483648 : Int) ≤ mi + (-1); omega, by show mi + (-1) < (2147483648 : Int); omega⟩ ?_
                  show wz _ _ _ _ [some (.inr (.inr (some m))), some (.inl (M0.1 s 0)), some (.inl best), some (.inl (mi + (-1))), v4] _ _ _ _ _
                  refine w_goto ?_
                  exact h b best _ _ CO HA PL _ _ _ _ hC5 (fun j hj => rv_up_n (by omega)) (fun _ _ => rfl) (fun _ _ => rfl) hN (cs_node_n hnone) (by omega)
            · exfalso; omega
          · exfalso; omega
        · exfalso; omega
    · have hc1 : c0 = 1 := hcb.elim (fun q => q.1) (fun q => absurd q.1 hcan)
      have key : ∀ (n : Nat) (ni : Int) (bn : cs_R) (bestn : Int) (TR' CO' HA' PL' : Nat → Int) (M' : mj_M) (v4 : Option mj_V) (cb sb : Nat), ni + n = M0.1 s 0 + 1 → 0 ≤ ni → cr_C w M0 TR' CO' HA' PL' M' → (∀ j : Nat, (j : Int) < mi → TR' j = TR j) → (∀ j : Nat, (j : Int) ≤ mi → CO' j = CO j) → (∀ j : Nat, (j : Int) < 3 * mi + 3 → HA' j = HA j) → (ni ≤ M0.1 s 0 → TR' mi.toNat = ni - 1) → (ni = M0.1 s 0 + 1 → TR' mi.toNat = 8) → cs_N 1000000000 P0 bn bestn PL' → bn = cs_node (M0.1 s) b k P r mi.toNat a L ni.toNat → wz (d + 3) mt_X12_cheapest.2.2.2.2.1 Q (mt_X12_cheapest.2.2.2.2.1.drop 41) [some (.inr (.inr (some m))), some (.inl (M0.1 s 0)), some (.inl bestn), some (.inl mi), v4] [] G M' cb sb := by
        intro n
        induction n with
        | zero =>
          intro ni bn bestn TR' CO' HA' PL' M' v4 cb sb en n0 hC' q1 q2 q3 w1 w2 hNn ebn
          have w3 := w2 (by omega)
          have bb := hNn.b (by decide)
          refine w_iln rfl ?_
          refine w_iflt (fun c1 => ?_) (fun c1 => ?_)
          · exfalso; omega
          · skip
            refine w_iln rfl ?_
            refine w_bp ?_
            refine w_cmne (fun c2 => ?_) (fun c2 => ?_)
            · skip
              refine w_aln rfl ?_
              refine w_gr gm rfl (by decide) rfl (hC'.r (br.1)) ?_
              refine w_iln rfl ?_
              refine w_aln rfl ?_
              refine w_gr gm rfl (by decide) rfl (hC'.r (br.1)) ?_
              refine w_iln rfl ?_
              refine w_iald (v := (TR' mi.toNat)) gr.1 rfl (by show (0 : Int) ≤ mi; omega) (by show mi < ((13 : Nat) : Int); omega) (hC'.2.2.1 _ (by show mi.toNat < 13; omega)) ?_
              refine w_bp ?_
              refine w_cmne (fun c3 => ?_) (fun c3 => ?_)
              · exfalso; omega
              · skip
                refine w_bp ?_
                refine w_goto ?_
                refine w_iast gr.1 rfl (by decide) (by show (0 : Int) ≤ mi; omega) (by show mi < ((13 : Nat) : Int); omega) ?_
                have hC4 := hC'.h5 (j := mi.toNat) (v := 9) gr
                refine w_aln rfl ?_
                refine w_gr gm rfl (by decide) rfl (hC4.r (br.1)) ?_
                refine w_iln rfl ?_
                refine w_iald (v := 9) gr.1 rfl (by show (0 : Int) ≤ mi; omega) (by show mi < ((13 : Nat) : Int); omega) ((hC4.2.2.1 _ (by show mi.toNat < 13; omega)).trans rv_up_s) ?_
                refine w_bp ?_
                refine w_cmgt (fun c5 => ?_) (fun c5 => ?_)
                · skip
                  refine w_ii rfl ⟨by show (-2147483648 : Int) ≤ mi + (-1); omega, by show mi + (-1) < (2147483648 : Int); omega⟩ ?_
                  show wz _ _ _ _ [some (.inr (.inr (some m))), some (.inl (M0.1 s 0)), some (.inl bestn), some (.inl (mi + (-1))), v4] _ _ _ _ _
                  refine w_goto ?_
                  refine h bn bestn _ _ CO' HA' PL' _ _ _ _ hC4 (fun j hj => (rv_up_n (by omega)).trans (q1 j hj)) q2 q3 hNn ?_ (by omega)
                  rw [ebn, show ni.toNat = cs_t (M0.1 s) + 1 by omega, cs_node_e]
                · exfalso; omega
            · exfalso; omega
        | succ n ihn =>
          intro ni bn bestn TR' CO' HA' PL' M' v4 cb sb en n0 hC' q1 q2 q3 w1 w2 hNn ebn
          have w3 := w1 (by omega)
          have bb := hNn.b (by decide)
          have hn9 : ni.toNat ≤ cs_t (M0.1 s) := by omega
          have cc := cs_code_c (H := M0.1 s) hn9
          have hq3 : ∀ q : Nat, (q : Int) < M0.1 s 0 → HA' (3 * mi.toNat + q) = HA (3 * mi.toNat + q) := fun q hq => q3 _ (by omega)
          have hb2 : ∀ q : Nat, (q : Int) < M0.1 s 0 → 0 ≤ HA' (3 * mi.toNat + q) ∧ HA' (3 * mi.toNat + q) ≤ 12000 := fun q hq => by
            rw [hq3 q hq]; exact ⟨(hH q hq).1, by have := (hH q hq).2; omega⟩
          have ecb : cs_cb (M0.1 s) HA' mi.toNat (cs_t (M0.1 s)) 0 = 1 := by
            rw [← hc1, hc0]; exact cs_cb_cg (t := cs_t (M0.1 s)) (fun q hq => hq3 q (by omega)) _ _ (by omega)
          have ek : CO' mi.toNat = k := (q2 _ (by omega)).trans hk
          have cst := cs_cost_9 hr t3 (a := a) (b := ni.toNat) ha hn9
          have eat : (mi = 0 ∧ a = cs_t (M0.1 s)) ∨ (1 ≤ mi ∧ TR' (mi - 1).toNat = cs_code (M0.1 s) a) := by
            rcases hat with z | z
            · exact Or.inl z
            · exact Or.inr ⟨z.1, (q1 _ (by omega)).trans z.2⟩
          refine w_iln rfl ?_
          refine w_iflt (fun c1 => ?_) (fun c1 => ?_)
          · exfalso; omega
          · skip
            refine w_iln rfl ?_
            refine w_bp ?_
            refine w_cmne (fun c2 => ?_) (fun c2 => ?_)
            · skip
              refine w_aln rfl ?_
              refine w_gr gm rfl (by decide) rfl (hC'.r (br.1)) ?_
              refine w_iln rfl ?_
              refine w_aln rfl ?_
              refine w_gr gm rfl (by decide) rfl (hC'.r (br.1)) ?_
              refine w_iln rfl ?_
              refine w_iald (v := (TR' mi.toNat)) gr.1 rfl (by show (0 : Int) ≤ mi; omega) (by show mi < ((13 : Nat) : Int); omega) (hC'.2.2.1 _ (by show mi.toNat < 13; omega)) ?_
              refine w_bp ?_
              refine w_cmne (fun c3 => ?_) (fun c3 => ?_)
              · skip
                refine w_aln rfl ?_
                refine w_gr gm rfl (by decide) rfl (hC'.r (br.1)) ?_
                refine w_iln rfl ?_
                refine w_iald (v := (TR' mi.toNat)) gr.1 rfl (by show (0 : Int) ≤ mi; omega) (by show mi < ((13 : Nat) : Int); omega) (hC'.2.2.1 _ (by show mi.toNat < 13; omega)) ?_
                refine w_ic ?_
                refine w_add ⟨by show (-2147483648 : Int) ≤ (TR' mi.toNat) + 1; omega, by show (TR' mi.toNat) + 1 < (2147483648 : Int); omega⟩ ?_
                refine w_iln rfl ?_
                refine w_cmne (fun c4 => ?_) (fun c4 => ?_)
                · skip
                  refine w_aln rfl ?_
                  refine w_gr gm rfl (by decide) rfl (hC'.r (br.1)) ?_
                  refine w_iln rfl ?_
                  refine w_iald (v := (TR' mi.toNat)) gr.1 rfl (by show (0 : Int) ≤ mi; omega) (by show mi < ((13 : Nat) : Int); omega) (hC'.2.2.1 _ (by show mi.toNat < 13; omega)) ?_
                  refine w_ic ?_
                  refine w_add ⟨by show (-2147483648 : Int) ≤ (TR' mi.toNat) + 1; omega, by show (TR' mi.toNat) + 1 < (2147483648 : Int); omega⟩ ?_
                  refine w_iast gr.1 rfl (by decide) (by show (0 : Int) ≤ mi; omega) (by show mi < ((13 : Nat) : Int); omega) ?_
                  have hC5 := hC'.h5 (j := mi.toNat) (v := (TR' mi.toNat) + 1) gr
                  refine w_aln rfl ?_
                  refine w_gr gm rfl (by decide) rfl (hC5.r (br.1)) ?_
                  refine w_iln rfl ?_
                  refine w_iald (v := (TR' mi.toNat) + 1) gr.1 rfl (by show (0 : Int) ≤ mi; omega) (by show mi < ((13 : Nat) : Int); omega) ((hC5.2.2.1 _ (by show mi.toNat < 13; omega)).trans rv_up_s) ?_
                  refine w_bp ?_
                  refine w_cmgt (fun c6 => ?_) (fun c6 => ?_)
                  · exfalso; omega
                  · skip
                    refine w_aln rfl ?_
                    refine w_iln rfl ?_
                    refine w_cv (st := []) rfl gm rfl (Nat.le_of_ble_eq_true rfl) (fun kk h => h) (r_X12_canBe (d := d) gr br gm gs m6 hr t1 t3 hC5 (mi := mi) (by omega) (by omega) hb2 ?_)
                    show wz _ _ _ _ _ (.inl (cs_cb (M0.1 s) HA' mi.toNat (cs_t (M0.1 s)) 0) :: _) _ _ _ _
                    rw [ecb]
                    refine w_ifne (fun c7 => ?_) (fun c7 => ?_)
                    · skip
                      refine w_aln rfl ?_
                      refine w_gr gm rfl (by decide) rfl (hC5.r (br.2.1)) ?_
                      refine w_iln rfl ?_
                      refine w_ic ?_
                      refine w_add ⟨by show (-2147483648 : Int) ≤ mi + 1; omega, by show mi + 1 < (2147483648 : Int); omega⟩ ?_
                      refine w_aln rfl ?_
                      refine w_gr gm rfl (by decide) rfl (hC5.r (br.2.1)) ?_
                      refine w_iln rfl ?_
                      refine w_iald (v := k) gr.2.1 rfl (by show (0 : Int) ≤ mi; omega) (by show mi < ((13 : Nat) : Int); omega) ((hC5.2.2.2.1 _ (by show mi.toNat < 13; omega)).trans ek) ?_
                      refine w_aln rfl ?_
                      refine w_iln rfl ?_
                      refine w_aln rfl ?_
                      refine w_gr gm rfl (by decide) rfl (hC5.r (br.1)) ?_
                      refine w_iln rfl ?_
                      refine w_iald (v := (TR' mi.toNat) + 1) gr.1 rfl (by show (0 : Int) ≤ mi; omega) (by show mi < ((13 : Nat) : Int); omega) ((hC5.2.2.1 _ (by show mi.toNat < 13; omega)).trans rv_up_s) ?_
                      have etv : (TR' mi.toNat) + 1 = cs_code (M0.1 s) ni.toNat := by omega
                      refine w_cv (st := [.inl k, .inl (mi + 1), .inr (.inr (some (w 346)))]) rfl gm rfl (Nat.le_of_ble_eq_true rfl) (fun kk h => h) (r_X12_costOf (d := d + 1) gr br gm gs m6 hr t1 t3 hC5 (mi := mi) (to := (TR' mi.toNat) + 1) (a := a) (b := ni.toNat) (by omega) (by omega) ha hn9 (eat.elim Or.inl (fun z => Or.inr ⟨z.1, (rv_up_n (by omega)).trans z.2⟩)) etv ?_)
                      refine w_add ⟨by show (-2147483648 : Int) ≤ k + (cs_cost (M0.1 s) a ni.toNat); omega, by show k + (cs_cost (M0.1 s) a ni.toNat) < (2147483648 : Int); omega⟩ ?_
                      refine w_iast gr.2.1 rfl (by decide) (by show (0 : Int) ≤ mi + 1; omega) (by show mi + 1 < ((13 : Nat) : Int); omega) ?_
                      have hC8 := hC5.h6 (j := (mi + 1).toNat) (v := k + (cs_cost (M0.1 s) a ni.toNat)) gr
                      refine w_aln rfl ?_
                      refine w_gr gm rfl (by decide) rfl (hC8.r (br.2.1)) ?_
                      refine w_iln rfl ?_
                      refine w_ic ?_
                      refine w_add ⟨by show (-2147483648 : Int) ≤ mi + 1; omega, by show mi + 1 < (2147483648 : Int); omega⟩ ?_
                      refine w_iald (v := k + (cs_cost (M0.1 s) a ni.toNat)) gr.2.1 rfl (by show (0 : Int) ≤ mi + 1; omega) (by show mi + 1 < ((13 : Nat) : Int); omega) ((hC8.2.2.2.1 _ (by show (mi + 1).toNat < 13; omega)).trans rv_up_s) ?_
                      refine w_iln rfl ?_
                      refine w_cmlt (fun c9 => ?_) (fun c9 => ?_)
                      · skip
                        refine w_ic ?_
                        refine w_is ?_
                        show wz _ _ _ _ [some (.inr (.inr (some m))), some (.inl (M0.1 s 0)), some (.inl bestn), some (.inl mi), some (.inl 0)] _ _ _ _ _
                        have etr : (rv_up TR' mi.toNat ((TR' mi.toNat) + 1)) mi.toNat = ((TR' mi.toNat) + 1) := rv_up_s
                        refine r_hv (d := d + 1) gr br gm gs m6 hr t1 t3 hC8 (mi := mi) (best := bestn) (tv := (TR' mi.toNat) + 1) (by omega) (by omega) etr hb2 (cs_t (M0.1 s)) 0 HA' _ _ _ (by omega) (by decide) hC8 (fun _ _ => rfl) (fun q hq => absurd hq (by omega)) (fun HA2 M2 v4 cb sb hC2 g1 g2 => ?_)
                        refine w_ii rfl ⟨by show (-2147483648 : Int) ≤ mi + 1; omega, by show mi + 1 < (2147483648 : Int); omega⟩ ?_
                        show wz _ _ _ _ [some (.inr (.inr (some m))), some (.inl (M0.1 s 0)), some (.inl bestn), some (.inl (mi + 1)), v4] _ _ _ _ _
                        refine w_iln rfl ?_
                        refine w_bp ?_
                        refine w_cmge (fun c10 => ?_) (fun c10 => ?_)
                        · skip
                          have em : (mi + 1).toNat = mi.toNat + 1 := by omega
                          refine ih (mi + 1) (fun j => if j = mi.toNat then cs_code (M0.1 s) ni.toNat else P j) (k + (cs_cost (M0.1 s) a ni.toNat)) ni.toNat (cs_lk (M0.1 s) L ni.toNat mi.toNat) bn bestn _ _ HA2 PL' _ _ _ _ (by omega) (by omega) hC2 hn9 (Or.inr ⟨by omega, ?_⟩) (fun j hj => ?_) ?_ (by omega) (by omega) (fun q hq => ?_) (fun q hq => ?_) (fun hr0 => ?_) hNn (by omega) (fun b2 best2 mj TR2 CO2 HA3 PL2 M2 v2 cb2 sb2 hC3 p1 p2 p3 hN2 e2 ej => ?_)
                          · rw [show (mi + 1 - 1).toNat = mi.toNat by omega]
                            exact (rv_up_s).trans etv
                          · by_cases ej : (j : Int) = mi
                            · have ej2 : j = mi.toNat := by omega
                              subst ej2
                              exact ((rv_up_s).trans etv).trans (if_pos rfl).symm
                            · exact ((rv_up_n (by omega)).trans ((q1 j (by omega)).trans (hP j (by omega)))).trans (if_neg (by omega)).symm
                          · exact rv_up_s
                          · have g3 := g2 q (by omega)
                            rw [em, show 3 * (mi.toNat + 1) + q = 3 * mi.toNat + 3 + q by omega, g3, hq3 q (by omega)]
                            have h2 := hL q hq
                            unfold cs_lk
                            by_cases eq : q = ni.toNat
                            · rw [if_pos eq, if_pos (by omega), ← eq]; omega
                            · rw [if_neg eq, if_neg (by omega)]; omega
                          · have g3 := g2 q hq
                            have gq := cs_gain_9 hr (k := q) (m := mi.toNat) (by omega) (by omega)
                            have hq2 := hH q hq
                            rw [em, show 3 * (mi.toNat + 1) + q = 3 * mi.toNat + 3 + q by omega, g3, hq3 q hq]
                            split <;> omega
                          · exact absurd hr0 (by omega)
                          rw [em] at e2
                          obtain rfl : mj = mi := by omega
                          refine ihn (ni + 1) b2 best2 TR2 CO2 HA3 PL2 M2 _ _ _ (by omega) (by omega) hC3 (fun j hj => (p1 j (by omega)).trans ((rv_up_n (by omega)).trans (q1 j hj))) (fun j hj => (p2 j (by omega)).trans ((rv_up_n (by omega)).trans (q2 j hj))) (fun j hj => (p3 j (by omega)).trans ((g1 j hj).trans (q3 j hj))) (fun z => (p1 _ (by omega)).trans ((rv_up_s).trans (by omega))) (fun z => (p1 _ (by omega)).trans ((rv_up_s).trans (by omega))) hN2 ?_
                          rw [e2, show (ni + 1).toNat = ni.toNat + 1 by omega, cs_node_s, ← ebn]
                        · skip
                          refine w_aln rfl ?_
                          refine w_gr gm rfl (by decide) rfl (hC2.r (br.1)) ?_
                          refine w_iln rfl ?_
                          refine w_ic ?_
                          refine w_iast gr.1 rfl (by decide) (by show (0 : Int) ≤ mi + 1; omega) (by show mi + 1 < ((13 : Nat) : Int); omega) ?_
                          have hC11 := hC2.h5 (j := (mi + 1).toNat) (v := -1) gr
                          refine w_goto ?_
                          have em : (mi + 1).toNat = mi.toNat + 1 := by omega
                          refine ih (mi + 1) (fun j => if j = mi.toNat then cs_code (M0.1 s) ni.toNat else P j) (k + (cs_cost (M0.1 s) a ni.toNat)) ni.toNat (cs_lk (M0.1 s) L ni.toNat mi.toNat) bn bestn _ _ HA2 PL' _ _ _ _ (by omega) (by omega) hC11 hn9 (Or.inr ⟨by omega, ?_⟩) (fun j hj => ?_) ?_ (by omega) (by omega) (fun q hq => ?_) (fun q hq => ?_) (fun hr0 => ?_) hNn (by omega) (fun b2 best2 mj TR2 CO2 HA3 PL2 M2 v2 cb2 sb2 hC3 p1 p2 p3 hN2 e2 ej => ?_)
                          · rw [show (mi + 1 - 1).toNat = mi.toNat by omega]
                            exact ((rv_up_n (by omega)).trans rv_up_s).trans etv
                          · by_cases ej : (j : Int) = mi
                            · have ej2 : j = mi.toNat := by omega
                              subst ej2
                              exact (((rv_up_n (by omega)).trans rv_up_s).trans etv).trans (if_pos rfl).symm
                            · exact ((rv_up_n (by omega)).trans ((rv_up_n (by omega)).trans ((q1 j (by omega)).trans (hP j (by omega))))).trans (if_neg (by omega)).symm
                          · exact rv_up_s
                          · have g3 := g2 q (by omega)
                            rw [em, show 3 * (mi.toNat + 1) + q = 3 * mi.toNat + 3 + q by omega, g3, hq3 q (by omega)]
                            have h2 := hL q hq
                            unfold cs_lk
                            by_cases eq : q = ni.toNat
                            · rw [if_pos eq, if_pos (by omega), ← eq]; omega
                            · rw [if_neg eq, if_neg (by omega)]; omega
                          · have g3 := g2 q hq
                            have gq := cs_gain_9 hr (k := q) (m := mi.toNat) (by omega) (by omega)
                            have hq2 := hH q hq
                            rw [em, show 3 * (mi.toNat + 1) + q = 3 * mi.toNat + 3 + q by omega, g3, hq3 q hq]
                            split <;> omega
                          · exact rv_up_s
                          rw [em] at e2
                          obtain rfl : mj = mi := by omega
                          refine ihn (ni + 1) b2 best2 TR2 CO2 HA3 PL2 M2 _ _ _ (by omega) (by omega) hC3 (fun j hj => (p1 j (by omega)).trans ((rv_up_n (by omega)).trans ((rv_up_n (by omega)).trans (q1 j hj)))) (fun j hj => (p2 j (by omega)).trans ((rv_up_n (by omega)).trans (q2 j hj))) (fun j hj => (p3 j (by omega)).trans ((g1 j hj).trans (q3 j hj))) (fun z => (p1 _ (by omega)).trans (((rv_up_n (by omega)).trans rv_up_s).trans (by omega))) (fun z => (p1 _ (by omega)).trans (((rv_up_n (by omega)).trans rv_up_s).trans (by omega))) hN2 ?_
                          rw [e2, show (ni + 1).toNat = ni.toNat + 1 by omega, cs_node_s, ← ebn]
                      · skip
                        refine w_goto ?_
                        refine ihn (ni + 1) bn bestn _ _ HA' PL' _ _ _ _ (by omega) (by omega) hC8 (fun j hj => (rv_up_n (by omega)).trans (q1 j hj)) (fun j hj => (rv_up_n (by omega)).trans (q2 j hj)) q3 (fun z => rv_up_s.trans (by omega)) (fun z => rv_up_s.trans (by omega)) hNn ?_
                        rw [show (ni + 1).toNat = ni.toNat + 1 by omega, ebn]
                        exact (cs_node_cut ho (by rw [← ebn]; exact hNn.le (by omega) (by omega))).symm
                    · exfalso; omega
                · skip
                  refine w_bp ?_
                  refine w_goto ?_
                  refine w_iast gr.1 rfl (by decide) (by show (0 : Int) ≤ mi; omega) (by show mi < ((13 : Nat) : Int); omega) ?_
                  have hC12 := hC'.h5 (j := mi.toNat) (v := 8) gr
                  refine w_aln rfl ?_
                  refine w_gr gm rfl (by decide) rfl (hC12.r (br.1)) ?_
                  refine w_iln rfl ?_
                  refine w_iald (v := 8) gr.1 rfl (by show (0 : Int) ≤ mi; omega) (by show mi < ((13 : Nat) : Int); omega) ((hC12.2.2.1 _ (by show mi.toNat < 13; omega)).trans rv_up_s) ?_
                  refine w_bp ?_
                  refine w_cmgt (fun c13 => ?_) (fun c13 => ?_)
                  · exfalso; omega
                  · skip
                    refine w_aln rfl ?_
                    refine w_iln rfl ?_
                    refine w_cv (st := []) rfl gm rfl (Nat.le_of_ble_eq_true rfl) (fun kk h => h) (r_X12_canBe (d := d) gr br gm gs m6 hr t1 t3 hC12 (mi := mi) (by omega) (by omega) hb2 ?_)
                    show wz _ _ _ _ _ (.inl (cs_cb (M0.1 s) HA' mi.toNat (cs_t (M0.1 s)) 0) :: _) _ _ _ _
                    rw [ecb]
                    refine w_ifne (fun c14 => ?_) (fun c14 => ?_)
                    · skip
                      refine w_aln rfl ?_
                      refine w_gr gm rfl (by decide) rfl (hC12.r (br.2.1)) ?_
                      refine w_iln rfl ?_
                      refine w_ic ?_
                      refine w_add ⟨by show (-2147483648 : Int) ≤ mi + 1; omega, by show mi + 1 < (2147483648 : Int); omega⟩ ?_
                      refine w_aln rfl ?_
                      refine w_gr gm rfl (by decide) rfl (hC12.r (br.2.1)) ?_
                      refine w_iln rfl ?_
                      refine w_iald (v := k) gr.2.1 rfl (by show (0 : Int) ≤ mi; omega) (by show mi < ((13 : Nat) : Int); omega) ((hC12.2.2.2.1 _ (by show mi.toNat < 13; omega)).trans ek) ?_
                      refine w_aln rfl ?_
                      refine w_iln rfl ?_
                      refine w_aln rfl ?_
                      refine w_gr gm rfl (by decide) rfl (hC12.r (br.1)) ?_
                      refine w_iln rfl ?_
                      refine w_iald (v := 8) gr.1 rfl (by show (0 : Int) ≤ mi; omega) (by show mi < ((13 : Nat) : Int); omega) ((hC12.2.2.1 _ (by show mi.toNat < 13; omega)).trans rv_up_s) ?_
                      have etv : 8 = cs_code (M0.1 s) ni.toNat := by omega
                      refine w_cv (st := [.inl k, .inl (mi + 1), .inr (.inr (some (w 346)))]) rfl gm rfl (Nat.le_of_ble_eq_true rfl) (fun kk h => h) (r_X12_costOf (d := d + 1) gr br gm gs m6 hr t1 t3 hC12 (mi := mi) (to := 8) (a := a) (b := ni.toNat) (by omega) (by omega) ha hn9 (eat.elim Or.inl (fun z => Or.inr ⟨z.1, (rv_up_n (by omega)).trans z.2⟩)) etv ?_)
                      refine w_add ⟨by show (-2147483648 : Int) ≤ k + (cs_cost (M0.1 s) a ni.toNat); omega, by show k + (cs_cost (M0.1 s) a ni.toNat) < (2147483648 : Int); omega⟩ ?_
                      refine w_iast gr.2.1 rfl (by decide) (by show (0 : Int) ≤ mi + 1; omega) (by show mi + 1 < ((13 : Nat) : Int); omega) ?_
                      have hC15 := hC12.h6 (j := (mi + 1).toNat) (v := k + (cs_cost (M0.1 s) a ni.toNat)) gr
                      refine w_aln rfl ?_
                      refine w_gr gm rfl (by decide) rfl (hC15.r (br.2.1)) ?_
                      refine w_iln rfl ?_
                      refine w_ic ?_
                      refine w_add ⟨by show (-2147483648 : Int) ≤ mi + 1; omega, by show mi + 1 < (2147483648 : Int); omega⟩ ?_
                      refine w_iald (v := k + (cs_cost (M0.1 s) a ni.toNat)) gr.2.1 rfl (by show (0 : Int) ≤ mi + 1; omega) (by show mi + 1 < ((13 : Nat) : Int); omega) ((hC15.2.2.2.1 _ (by show (mi + 1).toNat < 13; omega)).trans rv_up_s) ?_
                      refine w_iln rfl ?_
                      refine w_cmlt (fun c16 => ?_) (fun c16 => ?_)
                      · skip
                        refine w_ic ?_
                        refine w_is ?_
                        show wz _ _ _ _ [some (.inr (.inr (some m))), some (.inl (M0.1 s 0)), some (.inl bestn), some (.inl mi), some (.inl 0)] _ _ _ _ _
                        have etr : (rv_up TR' mi.toNat 8) mi.toNat = 8 := rv_up_s
                        refine r_hv (d := d + 1) gr br gm gs m6 hr t1 t3 hC15 (mi := mi) (best := bestn) (tv := 8) (by omega) (by omega) etr hb2 (cs_t (M0.1 s)) 0 HA' _ _ _ (by omega) (by decide) hC15 (fun _ _ => rfl) (fun q hq => absurd hq (by omega)) (fun HA2 M2 v4 cb sb hC2 g1 g2 => ?_)
                        refine w_ii rfl ⟨by show (-2147483648 : Int) ≤ mi + 1; omega, by show mi + 1 < (2147483648 : Int); omega⟩ ?_
                        show wz _ _ _ _ [some (.inr (.inr (some m))), some (.inl (M0.1 s 0)), some (.inl bestn), some (.inl (mi + 1)), v4] _ _ _ _ _
                        refine w_iln rfl ?_
                        refine w_bp ?_
                        refine w_cmge (fun c17 => ?_) (fun c17 => ?_)
                        · skip
                          have em : (mi + 1).toNat = mi.toNat + 1 := by omega
                          refine ih (mi + 1) (fun j => if j = mi.toNat then cs_code (M0.1 s) ni.toNat else P j) (k + (cs_cost (M0.1 s) a ni.toNat)) ni.toNat (cs_lk (M0.1 s) L ni.toNat mi.toNat) bn bestn _ _ HA2 PL' _ _ _ _ (by omega) (by omega) hC2 hn9 (Or.inr ⟨by omega, ?_⟩) (fun j hj => ?_) ?_ (by omega) (by omega) (fun q hq => ?_) (fun q hq => ?_) (fun hr0 => ?_) hNn (by omega) (fun b2 best2 mj TR2 CO2 HA3 PL2 M2 v2 cb2 sb2 hC3 p1 p2 p3 hN2 e2 ej => ?_)
                          · rw [show (mi + 1 - 1).toNat = mi.toNat by omega]
                            exact (rv_up_s).trans etv
                          · by_cases ej : (j : Int) = mi
                            · have ej2 : j = mi.toNat := by omega
                              subst ej2
                              exact ((rv_up_s).trans etv).trans (if_pos rfl).symm
                            · exact ((rv_up_n (by omega)).trans ((q1 j (by omega)).trans (hP j (by omega)))).trans (if_neg (by omega)).symm
                          · exact rv_up_s
                          · have g3 := g2 q (by omega)
                            rw [em, show 3 * (mi.toNat + 1) + q = 3 * mi.toNat + 3 + q by omega, g3, hq3 q (by omega)]
                            have h2 := hL q hq
                            unfold cs_lk
                            by_cases eq : q = ni.toNat
                            · rw [if_pos eq, if_pos (by omega), ← eq]; omega
                            · rw [if_neg eq, if_neg (by omega)]; omega
                          · have g3 := g2 q hq
                            have gq := cs_gain_9 hr (k := q) (m := mi.toNat) (by omega) (by omega)
                            have hq2 := hH q hq
                            rw [em, show 3 * (mi.toNat + 1) + q = 3 * mi.toNat + 3 + q by omega, g3, hq3 q hq]
                            split <;> omega
                          · exact absurd hr0 (by omega)
                          rw [em] at e2
                          obtain rfl : mj = mi := by omega
                          refine ihn (ni + 1) b2 best2 TR2 CO2 HA3 PL2 M2 _ _ _ (by omega) (by omega) hC3 (fun j hj => (p1 j (by omega)).trans ((rv_up_n (by omega)).trans (q1 j hj))) (fun j hj => (p2 j (by omega)).trans ((rv_up_n (by omega)).trans (q2 j hj))) (fun j hj => (p3 j (by omega)).trans ((g1 j hj).trans (q3 j hj))) (fun z => (p1 _ (by omega)).trans ((rv_up_s).trans (by omega))) (fun z => (p1 _ (by omega)).trans ((rv_up_s).trans (by omega))) hN2 ?_
                          rw [e2, show (ni + 1).toNat = ni.toNat + 1 by omega, cs_node_s, ← ebn]
                        · skip
                          refine w_aln rfl ?_
                          refine w_gr gm rfl (by decide) rfl (hC2.r (br.1)) ?_
                          refine w_iln rfl ?_
                          refine w_ic ?_
                          refine w_iast gr.1 rfl (by decide) (by show (0 : Int) ≤ mi + 1; omega) (by show mi + 1 < ((13 : Nat) : Int); omega) ?_
                          have hC18 := hC2.h5 (j := (mi + 1).toNat) (v := -1) gr
                          refine w_goto ?_
                          have em : (mi + 1).toNat = mi.toNat + 1 := by omega
                          refine ih (mi + 1) (fun j => if j = mi.toNat then cs_code (M0.1 s) ni.toNat else P j) (k + (cs_cost (M0.1 s) a ni.toNat)) ni.toNat (cs_lk (M0.1 s) L ni.toNat mi.toNat) bn bestn _ _ HA2 PL' _ _ _ _ (by omega) (by omega) hC18 hn9 (Or.inr ⟨by omega, ?_⟩) (fun j hj => ?_) ?_ (by omega) (by omega) (fun q hq => ?_) (fun q hq => ?_) (fun hr0 => ?_) hNn (by omega) (fun b2 best2 mj TR2 CO2 HA3 PL2 M2 v2 cb2 sb2 hC3 p1 p2 p3 hN2 e2 ej => ?_)
                          · rw [show (mi + 1 - 1).toNat = mi.toNat by omega]
                            exact ((rv_up_n (by omega)).trans rv_up_s).trans etv
                          · by_cases ej : (j : Int) = mi
                            · have ej2 : j = mi.toNat := by omega
                              subst ej2
                              exact (((rv_up_n (by omega)).trans rv_up_s).trans etv).trans (if_pos rfl).symm
                            · exact ((rv_up_n (by omega)).trans ((rv_up_n (by omega)).trans ((q1 j (by omega)).trans (hP j (by omega))))).trans (if_neg (by omega)).symm
                          · exact rv_up_s
                          · have g3 := g2 q (by omega)
                            rw [em, show 3 * (mi.toNat + 1) + q = 3 * mi.toNat + 3 + q by omega, g3, hq3 q (by omega)]
                            have h2 := hL q hq
                            unfold cs_lk
                            by_cases eq : q = ni.toNat
                            · rw [if_pos eq, if_pos (by omega), ← eq]; omega
                            · rw [if_neg eq, if_neg (by omega)]; omega
                          · have g3 := g2 q hq
                            have gq := cs_gain_9 hr (k := q) (m := mi.toNat) (by omega) (by omega)
                            have hq2 := hH q hq
                            rw [em, show 3 * (mi.toNat + 1) + q = 3 * mi.toNat + 3 + q by omega, g3, hq3 q hq]
                            split <;> omega
                          · exact rv_up_s
                          rw [em] at e2
                          obtain rfl : mj = mi := by omega
                          refine ihn (ni + 1) b2 best2 TR2 CO2 HA3 PL2 M2 _ _ _ (by omega) (by omega) hC3 (fun j hj => (p1 j (by omega)).trans ((rv_up_n (by omega)).trans ((rv_up_n (by omega)).trans (q1 j hj)))) (fun j hj => (p2 j (by omega)).trans ((rv_up_n (by omega)).trans (q2 j hj))) (fun j hj => (p3 j (by omega)).trans ((g1 j hj).trans (q3 j hj))) (fun z => (p1 _ (by omega)).trans (((rv_up_n (by omega)).trans rv_up_s).trans (by omega))) (fun z => (p1 _ (by omega)).trans (((rv_up_n (by omega)).trans rv_up_s).trans (by omega))) hN2 ?_
                          rw [e2, show (ni + 1).toNat = ni.toNat + 1 by omega, cs_node_s, ← ebn]
                      · skip
                        refine w_goto ?_
                        refine ihn (ni + 1) bn bestn _ _ HA' PL' _ _ _ _ (by omega) (by omega) hC15 (fun j hj => (rv_up_n (by omega)).trans (q1 j hj)) (fun j hj => (rv_up_n (by omega)).trans (q2 j hj)) q3 (fun z => rv_up_s.trans (by omega)) (fun z => rv_up_s.trans (by omega)) hNn ?_
                        rw [show (ni + 1).toNat = ni.toNat + 1 by omega, ebn]
                        exact (cs_node_cut ho (by rw [← ebn]; exact hNn.le (by omega) (by omega))).symm
                    · exfalso; omega
              · exfalso; omega
            · exfalso; omega
      refine key (cs_t (M0.1 s) + 1) 0 b best TR CO HA PL M v4 cb sb (by omega) (by decide) hC (fun _ _ => rfl) (fun _ _ => rfl) (fun _ _ => rfl) (fun _ => by omega) (fun z => by omega) hN ?_
      rw [show (0 : Int).toNat = 0 from rfl, cs_node_0]
theorem r_ch2 {G : mj_G} {M0 : mj_M} {m s : Nat} {w : Nat → Nat} {Q : mj_P} {d : Nat} (gr : cp_GR G w) (br : cp_BR M0 w m) (gm : G m = (1012, 0)) (gs : G s = (51100, 537)) (m6 : M0.2.2 m 6 = some s) (hr : rv_r4 (M0.1 s) 0) (t1 : 1 ≤ M0.1 s 0) (t3 : M0.1 s 0 ≤ 3) {M : mj_M} {TR CO HA PL : Nat → Int} (hC : cr_C w M0 TR CO HA PL M) {P0 : Nat → Int} {b : cs_R} {best mj : Int} {v4 : Option mj_V} {cb sb : Nat} (hmj : mj + 1 = 0) (hN : cs_N 1000000000 P0 b best PL) (hn : b = none → (∀ j, j < 12 → PL j = P0 j) → Q (some (.inl (-1))) G M) (hs : ∀ c P, b = some (c, P) → 0 ≤ c → c < 1000000000 → (∀ j, j < 12 → PL j = P j) → Q (some (.inl c)) G (mj_p0 (mj_p0 M m 39 1) m 40 (M0.1 m 25))) : wz (d + 3) mt_X12_cheapest.2.2.2.2.1 Q (mt_X12_cheapest.2.2.2.2.1.drop 41) [some (.inr (.inr (some m))), some (.inl (M0.1 s 0)), some (.inl best), some (.inl mj), v4] [] G M cb sb := by
  have bb := hN.b (by decide)
  obtain rfl : mj = -1 := by omega
  refine w_iln rfl ?_
  refine w_iflt (fun c1 => ?_) (fun c1 => ?_)
  · skip
    refine w_iln rfl ?_
    refine w_ldcw ?_
    refine w_cmne (fun c2 => ?_) (fun c2 => ?_)
    · skip
      refine w_aln rfl ?_
      refine w_ic ?_
      refine w_pi gm rfl (by decide) rfl (fun _ => by omega) ?_
      refine w_aln rfl ?_
      refine w_aln rfl ?_
      refine w_gi gm rfl (by decide) rfl ((hn_n (Or.inr (by decide))).trans (hC.mj gr gm)) ?_
      refine w_pi gm rfl (by decide) rfl (fun q => by cases q) ?_
      refine w_iln rfl ?_
      cases b with
      | none => have q : best = 1000000000 := hN.1; omega
      | some x =>
        obtain ⟨e1, e2, e3, e4⟩ := hN
        subst e1
        exact w_iret (fun q => by cases q) (hs x.1 x.2 rfl e2 e3 e4)
    · skip
      refine w_ic ?_
      have eb : b = none := by
        cases b with
        | none => rfl
        | some x => obtain ⟨-, -, q, -⟩ := hN; omega
      subst eb
      exact w_iret (fun q => by cases q) (hn rfl hN.2)
  · exfalso; omega
/-- what the reference's cheapest tells, one to three towns -/
def cs_L0 (H : Nat → Int) : Nat → Int := fun q => H (8 + 9 * q)
noncomputable def cs_A (H : Nat → Int) : cs_R := cs_S H 12 0 (cs_t H) (cs_L0 H)
theorem r_ch1 {G : mj_G} {M0 : mj_M} {m s : Nat} {w : Nat → Nat} {Q : mj_P} {d : Nat} (gr : cp_GR G w) (br : cp_BR M0 w m) (gm : G m = (1012, 0)) (gs : G s = (51100, 537)) (m6 : M0.2.2 m 6 = some s) (hr : rv_r4 (M0.1 s) 0) (t1 : 1 ≤ M0.1 s 0) (t3 : M0.1 s 0 ≤ 3) (hn : cs_A (M0.1 s) = none → ∀ M' TR CO HA PL, cr_C w M0 TR CO HA PL M' → (∀ j, j < 12 → PL j = M0.1 (w 348) j) → Q (some (.inl (-1))) G M') (hs : ∀ c P, cs_A (M0.1 s) = some (c, P) → 0 ≤ c → c < 1000000000 → ∀ M' TR CO HA PL, cr_C w M0 TR CO HA PL M' → (∀ j, j < 12 → PL j = P j) → Q (some (.inl c)) G (mj_p0 (mj_p0 M' m 39 1) m 40 (M0.1 m 25))) {cb sb : Nat} : wz (d + 3) mt_X12_cheapest.2.2.2.2.1 Q (mt_X12_cheapest.2.2.2.2.1.drop 15) [some (.inr (.inr (some m))), some (.inl (M0.1 s 0)), none, none, none] [] G M0 cb sb := by
  have et := cs_te hr
  have b1 := cs_r1 hr
  have hC := cr_C.re (w := w) (M := M0)
  obtain ⟨TR, hTR⟩ : ∃ F, F = M0.1 (w 345) := ⟨_, rfl⟩
  obtain ⟨CO, hCO⟩ : ∃ F, F = M0.1 (w 346) := ⟨_, rfl⟩
  obtain ⟨HA, hHA⟩ : ∃ F, F = M0.1 (w 347) := ⟨_, rfl⟩
  obtain ⟨PL, hPL⟩ : ∃ F, F = M0.1 (w 348) := ⟨_, rfl⟩
  rw [← hTR, ← hCO, ← hHA, ← hPL] at hC
  rw [← hPL] at hn
  refine w_ldcw ?_
  refine w_isn ?_
  show wz _ _ _ _ [some (.inr (.inr (some m))), some (.inl (M0.1 s 0)), some (.inl 1000000000), none, none] _ _ _ _ _
  refine w_aln rfl ?_
  refine w_gr gm rfl (by decide) rfl (hC.r (br.2.1)) ?_
  refine w_ic ?_
  refine w_ic ?_
  refine w_iast gr.2.1 rfl (by decide) (by show (0 : Int) ≤ 0; omega) (by show 0 < ((13 : Nat) : Int); omega) ?_
  have hC1 := hC.h6 (j := (0 : Int).toNat) (v := 0) gr
  refine w_ic ?_
  refine w_isn ?_
  show wz _ _ _ _ [some (.inr (.inr (some m))), some (.inl (M0.1 s 0)), some (.inl 1000000000), some (.inl 0), none] _ _ _ _ _
  refine w_iln rfl ?_
  refine w_ic ?_
  refine w_cmge (fun c2 => ?_) (fun c2 => ?_)
  · exfalso; omega
  · skip
    refine w_aln rfl ?_
    refine w_gr gm rfl (by decide) rfl (hC1.r (br.2.2.1)) ?_
    refine w_iln rfl ?_
    refine w_ic ?_
    refine w_iast gr.2.2.1 rfl (by decide) (by show (0 : Int) ≤ 0; omega) (by show 0 < ((39 : Nat) : Int); omega) ?_
    have hC3 := hC1.h7 (j := (0 : Int).toNat) (v := 0) gr
    refine w_ii rfl ⟨by show (-2147483648 : Int) ≤ 1; omega, by show 1 < (2147483648 : Int); omega⟩ ?_
    show wz _ _ _ _ [some (.inr (.inr (some m))), some (.inl (M0.1 s 0)), some (.inl 1000000000), some (.inl 1), none] _ _ _ _ _
    refine w_goto ?_
    refine w_iln rfl ?_
    refine w_ic ?_
    refine w_cmge (fun c4 => ?_) (fun c4 => ?_)
    · exfalso; omega
    · skip
      refine w_aln rfl ?_
      refine w_gr gm rfl (by decide) rfl (hC3.r (br.2.2.1)) ?_
      refine w_iln rfl ?_
      refine w_ic ?_
      refine w_iast gr.2.2.1 rfl (by decide) (by show (0 : Int) ≤ 1; omega) (by show 1 < ((39 : Nat) : Int); omega) ?_
      have hC5 := hC3.h7 (j := (1 : Int).toNat) (v := 0) gr
      refine w_ii rfl ⟨by show (-2147483648 : Int) ≤ 2; omega, by show 2 < (2147483648 : Int); omega⟩ ?_
      show wz _ _ _ _ [some (.inr (.inr (some m))), some (.inl (M0.1 s 0)), some (.inl 1000000000), some (.inl 2), none] _ _ _ _ _
      refine w_goto ?_
      refine w_iln rfl ?_
      refine w_ic ?_
      refine w_cmge (fun c6 => ?_) (fun c6 => ?_)
      · exfalso; omega
      · skip
        refine w_aln rfl ?_
        refine w_gr gm rfl (by decide) rfl (hC5.r (br.2.2.1)) ?_
        refine w_iln rfl ?_
        refine w_ic ?_
        refine w_iast gr.2.2.1 rfl (by decide) (by show (0 : Int) ≤ 2; omega) (by show 2 < ((39 : Nat) : Int); omega) ?_
        have hC7 := hC5.h7 (j := (2 : Int).toNat) (v := 0) gr
        refine w_ii rfl ⟨by show (-2147483648 : Int) ≤ 3; omega, by show 3 < (2147483648 : Int); omega⟩ ?_
        show wz _ _ _ _ [some (.inr (.inr (some m))), some (.inl (M0.1 s 0)), some (.inl 1000000000), some (.inl 3), none] _ _ _ _ _
        refine w_goto ?_
        refine w_iln rfl ?_
        refine w_ic ?_
        refine w_cmge (fun c8 => ?_) (fun c8 => ?_)
        · skip
          refine w_ic ?_
          refine w_isn ?_
          show wz _ _ _ _ [some (.inr (.inr (some m))), some (.inl (M0.1 s 0)), some (.inl 1000000000), some (.inl 0), none] _ _ _ _ _
          refine w_aln rfl ?_
          refine w_gr gm rfl (by decide) rfl (hC7.r (br.1)) ?_
          refine w_ic ?_
          refine w_ic ?_
          refine w_iast gr.1 rfl (by decide) (by show (0 : Int) ≤ 0; omega) (by show 0 < ((13 : Nat) : Int); omega) ?_
          have hC9 := hC7.h5 (j := (0 : Int).toNat) (v := -1) gr
          refine r_go (d := d) (P0 := PL) gr br gm gs m6 hr t1 t3 12 0 (fun _ => 0) 0 (cs_t (M0.1 s)) (cs_L0 (M0.1 s)) none 1000000000 _ _ _ PL _ _ _ _ (by decide) (by decide) hC9 (Nat.le_refl _) (Or.inl ⟨rfl, rfl⟩) (fun j hj => absurd hj (by omega)) rv_up_s (by decide) (by decide) (fun q hq => ?_) (fun q hq => ?_) (fun _ => rv_up_s) ⟨rfl, fun _ _ => rfl⟩ (by decide) (fun b2 best2 mj TR2 CO2 HA2 PL2 M2 v2 cb2 sb2 hC2 p1 p2 p3 hN2 e2 ej => ?_)
          · have hz : (rv_up (rv_up (rv_up HA ((0 : Int).toNat) 0) ((1 : Int).toNat) 0) ((2 : Int).toNat) 0) (3 * (0 : Int).toNat + q) = 0 := by
              rcases (by omega : q = 0 ∨ q = 1 ∨ q = 2) with z | z | z <;> subst z
              · exact (rv_up_n (by decide)).trans ((rv_up_n (by decide)).trans rv_up_s)
              · exact (rv_up_n (by decide)).trans rv_up_s
              · exact rv_up_s
            rw [hz]; show M0.1 s (8 + 9 * q) = M0.1 s (8 + 9 * q) - 0; omega
          · have hz : (rv_up (rv_up (rv_up HA ((0 : Int).toNat) 0) ((1 : Int).toNat) 0) ((2 : Int).toNat) 0) (3 * (0 : Int).toNat + q) = 0 := by
              rcases (by omega : q = 0 ∨ q = 1 ∨ q = 2) with z | z | z <;> subst z
              · exact (rv_up_n (by decide)).trans ((rv_up_n (by decide)).trans rv_up_s)
              · exact (rv_up_n (by decide)).trans rv_up_s
              · exact rv_up_s
            rw [hz]; decide
          have eA : b2 = cs_A (M0.1 s) := by
            rw [e2]
            show cs_min none (cs_pre 0 (fun _ => 0) 0 (cs_A (M0.1 s))) = _
            cases cs_A (M0.1 s) with
            | none => rfl
            | some x =>
              show some (0 + x.1, _) = some x
              rw [Int.zero_add]; rfl
          refine r_ch2 (d := d) gr br gm gs m6 hr t1 t3 hC2 ej hN2 (fun e hp => ?_) (fun c P e c0 c9 hp => ?_)
          · exact hn (eA.symm.trans e) M2 TR2 CO2 HA2 PL2 hC2 hp
          · exact hs c P (eA.symm.trans e) c0 c9 M2 TR2 CO2 HA2 PL2 hC2 hp
        · exfalso; omega
end
section
/-! ===== the cheapest letting: the class, its small methods (laid by a program) ===== -/
def cp_lt : List (Nat × Nat × Nat) := [(125, 1001, 0), (126, 2100, 12), (127, 3100, 3), (128, 4100, 3), (129, 5104, 3), (130, 6100, 12), (131, 6100, 12), (132, 6100, 12), (133, 7104, 3), (134, 8100, 13), (135, 8100, 13), (136, 8100, 13), (137, 9100, 13), (138, 10104, 3), (139, 11100, 81), (140, 11100, 81), (141, 11100, 81), (142, 12100, 81), (143, 13100, 81), (144, 14100, 12), (145, 15100, 12)]
def cp_lr : List (Nat × Nat × Nat) := [(125, 0, 126), (125, 7, 127), (125, 8, 128), (125, 9, 129), (125, 10, 133), (125, 11, 137), (125, 12, 138), (125, 13, 142), (125, 14, 143), (125, 16, 144), (125, 17, 145), (129, 0, 130), (129, 1, 131), (129, 2, 132), (133, 0, 134), (133, 1, 135), (133, 2, 136), (138, 0, 139), (138, 1, 140), (138, 2, 141)]
def cp_GA (G : mj_G) (w : Nat → Nat) : Prop := (∀ i j, i < 361 → j < 361 → w i = w j → i = j) ∧ ∀ e ∈ cp_lt, G (w e.1) = (e.2.1, e.2.2)
def cp_BA (M : mj_M) (w : Nat → Nat) : Prop := ∀ e ∈ cp_lr, M.2.2 (w e.1) e.2.1 = some (w e.2.2)
section CG
variable {G : mj_G} {M M0 : mj_M} {w : Nat → Nat} {H : Nat → Int} {LA PA BE LA2 : Nat → Int} {bp v : Int} {j k a b i : Nat}
theorem cp_GA.g125 (h : cp_GA G w) : G (w 125) = (1001, 0) := h.2 (125, 1001, 0) (by decide)
theorem cp_GA.g126 (h : cp_GA G w) : G (w 126) = (2100, 12) := h.2 (126, 2100, 12) (by decide)
theorem cp_GA.g127 (h : cp_GA G w) : G (w 127) = (3100, 3) := h.2 (127, 3100, 3) (by decide)
theorem cp_GA.g128 (h : cp_GA G w) : G (w 128) = (4100, 3) := h.2 (128, 4100, 3) (by decide)
theorem cp_GA.g129 (h : cp_GA G w) : G (w 129) = (5104, 3) := h.2 (129, 5104, 3) (by decide)
theorem cp_GA.g130 (h : cp_GA G w) : G (w 130) = (6100, 12) := h.2 (130, 6100, 12) (by decide)
theorem cp_GA.g131 (h : cp_GA G w) : G (w 131) = (6100, 12) := h.2 (131, 6100, 12) (by decide)
theorem cp_GA.g132 (h : cp_GA G w) : G (w 132) = (6100, 12) := h.2 (132, 6100, 12) (by decide)
theorem cp_GA.g133 (h : cp_GA G w) : G (w 133) = (7104, 3) := h.2 (133, 7104, 3) (by decide)
theorem cp_GA.g134 (h : cp_GA G w) : G (w 134) = (8100, 13) := h.2 (134, 8100, 13) (by decide)
theorem cp_GA.g135 (h : cp_GA G w) : G (w 135) = (8100, 13) := h.2 (135, 8100, 13) (by decide)
theorem cp_GA.g136 (h : cp_GA G w) : G (w 136) = (8100, 13) := h.2 (136, 8100, 13) (by decide)
theorem cp_GA.g137 (h : cp_GA G w) : G (w 137) = (9100, 13) := h.2 (137, 9100, 13) (by decide)
theorem cp_GA.g138 (h : cp_GA G w) : G (w 138) = (10104, 3) := h.2 (138, 10104, 3) (by decide)
theorem cp_GA.g139 (h : cp_GA G w) : G (w 139) = (11100, 81) := h.2 (139, 11100, 81) (by decide)
theorem cp_GA.g140 (h : cp_GA G w) : G (w 140) = (11100, 81) := h.2 (140, 11100, 81) (by decide)
theorem cp_GA.g141 (h : cp_GA G w) : G (w 141) = (11100, 81) := h.2 (141, 11100, 81) (by decide)
theorem cp_GA.g142 (h : cp_GA G w) : G (w 142) = (12100, 81) := h.2 (142, 12100, 81) (by decide)
theorem cp_GA.g143 (h : cp_GA G w) : G (w 143) = (13100, 81) := h.2 (143, 13100, 81) (by decide)
theorem cp_GA.g144 (h : cp_GA G w) : G (w 144) = (14100, 12) := h.2 (144, 14100, 12) (by decide)
theorem cp_GA.g145 (h : cp_GA G w) : G (w 145) = (15100, 12) := h.2 (145, 15100, 12) (by decide)
theorem cp_BA.r125_0 (h : cp_BA M w) : M.2.2 (w 125) 0 = some (w 126) := h (125, 0, 126) (by decide)
theorem cp_BA.r125_7 (h : cp_BA M w) : M.2.2 (w 125) 7 = some (w 127) := h (125, 7, 127) (by decide)
theorem cp_BA.r125_8 (h : cp_BA M w) : M.2.2 (w 125) 8 = some (w 128) := h (125, 8, 128) (by decide)
theorem cp_BA.r125_9 (h : cp_BA M w) : M.2.2 (w 125) 9 = some (w 129) := h (125, 9, 129) (by decide)
theorem cp_BA.r125_10 (h : cp_BA M w) : M.2.2 (w 125) 10 = some (w 133) := h (125, 10, 133) (by decide)
theorem cp_BA.r125_11 (h : cp_BA M w) : M.2.2 (w 125) 11 = some (w 137) := h (125, 11, 137) (by decide)
theorem cp_BA.r125_12 (h : cp_BA M w) : M.2.2 (w 125) 12 = some (w 138) := h (125, 12, 138) (by decide)
theorem cp_BA.r125_13 (h : cp_BA M w) : M.2.2 (w 125) 13 = some (w 142) := h (125, 13, 142) (by decide)
theorem cp_BA.r125_14 (h : cp_BA M w) : M.2.2 (w 125) 14 = some (w 143) := h (125, 14, 143) (by decide)
theorem cp_BA.r125_16 (h : cp_BA M w) : M.2.2 (w 125) 16 = some (w 144) := h (125, 16, 144) (by decide)
theorem cp_BA.r125_17 (h : cp_BA M w) : M.2.2 (w 125) 17 = some (w 145) := h (125, 17, 145) (by decide)
theorem cp_BA.r129_0 (h : cp_BA M w) : M.2.2 (w 129) 0 = some (w 130) := h (129, 0, 130) (by decide)
theorem cp_BA.r129_1 (h : cp_BA M w) : M.2.2 (w 129) 1 = some (w 131) := h (129, 1, 131) (by decide)
theorem cp_BA.r129_2 (h : cp_BA M w) : M.2.2 (w 129) 2 = some (w 132) := h (129, 2, 132) (by decide)
theorem cp_BA.r133_0 (h : cp_BA M w) : M.2.2 (w 133) 0 = some (w 134) := h (133, 0, 134) (by decide)
theorem cp_BA.r133_1 (h : cp_BA M w) : M.2.2 (w 133) 1 = some (w 135) := h (133, 1, 135) (by decide)
theorem cp_BA.r133_2 (h : cp_BA M w) : M.2.2 (w 133) 2 = some (w 136) := h (133, 2, 136) (by decide)
theorem cp_BA.r138_0 (h : cp_BA M w) : M.2.2 (w 138) 0 = some (w 139) := h (138, 0, 139) (by decide)
theorem cp_BA.r138_1 (h : cp_BA M w) : M.2.2 (w 138) 1 = some (w 140) := h (138, 1, 140) (by decide)
theorem cp_BA.r138_2 (h : cp_BA M w) : M.2.2 (w 138) 2 = some (w 141) := h (138, 2, 141) (by decide)
theorem cp_GA.w130 (h : cp_GA G w) (hk : k < 3) : G (w (130 + k)) = (6100, 12) := by
  rcases (by omega : k = 0 ∨ k = 1 ∨ k = 2) with e | e | e <;> subst e
  · exact h.g130
  · exact h.g131
  · exact h.g132
theorem cp_BA.w130 (h : cp_BA M w) (hk : k < 3) : M.2.2 (w 129) k = some (w (130 + k)) := by
  rcases (by omega : k = 0 ∨ k = 1 ∨ k = 2) with e | e | e <;> subst e
  · exact h.r129_0
  · exact h.r129_1
  · exact h.r129_2
theorem cp_GA.w134 (h : cp_GA G w) (hk : k < 3) : G (w (134 + k)) = (8100, 13) := by
  rcases (by omega : k = 0 ∨ k = 1 ∨ k = 2) with e | e | e <;> subst e
  · exact h.g134
  · exact h.g135
  · exact h.g136
theorem cp_BA.w134 (h : cp_BA M w) (hk : k < 3) : M.2.2 (w 133) k = some (w (134 + k)) := by
  rcases (by omega : k = 0 ∨ k = 1 ∨ k = 2) with e | e | e <;> subst e
  · exact h.r133_0
  · exact h.r133_1
  · exact h.r133_2
theorem cp_GA.w139 (h : cp_GA G w) (hk : k < 3) : G (w (139 + k)) = (11100, 81) := by
  rcases (by omega : k = 0 ∨ k = 1 ∨ k = 2) with e | e | e <;> subst e
  · exact h.g139
  · exact h.g140
  · exact h.g141
theorem cp_BA.w139 (h : cp_BA M w) (hk : k < 3) : M.2.2 (w 138) k = some (w (139 + k)) := by
  rcases (by omega : k = 0 ∨ k = 1 ∨ k = 2) with e | e | e <;> subst e
  · exact h.r138_0
  · exact h.r138_1
  · exact h.r138_2
theorem cp_GA.ne (h : cp_GA G w) (hi : a < 361) (hj : b < 361) (e : a ≠ b) : w a ≠ w b := fun q => e (h.1 a b hi hj q)
abbrev cc_ne (w : Nat → Nat) (a : Nat) : Prop := a ≠ w 125 ∧ a ≠ w 128 ∧ a ≠ w 144 ∧ a ≠ w 145
theorem cp_GA.nn (h : cp_GA G w) (hi : i < 361) (e : i ≠ 125 ∧ i ≠ 128 ∧ i ≠ 144 ∧ i ≠ 145) : cc_ne w (w i) := ⟨h.ne hi (by decide) e.1, h.ne hi (by decide) e.2.1, h.ne hi (by decide) e.2.2.1, h.ne hi (by decide) e.2.2.2⟩
theorem cp_GA.n127 (h : cp_GA G w) : cc_ne w (w 127) := h.nn (by decide) (by decide)
theorem cp_GA.n137 (h : cp_GA G w) : cc_ne w (w 137) := h.nn (by decide) (by decide)
theorem cp_GA.n142 (h : cp_GA G w) : cc_ne w (w 142) := h.nn (by decide) (by decide)
theorem cp_GA.n143 (h : cp_GA G w) : cc_ne w (w 143) := h.nn (by decide) (by decide)
theorem cp_GA.n130 (h : cp_GA G w) (hk : k < 3) : cc_ne w (w (130 + k)) := h.nn (by omega) (by omega)
theorem cp_GA.n134 (h : cp_GA G w) (hk : k < 3) : cc_ne w (w (134 + k)) := h.nn (by omega) (by omega)
theorem cp_GA.n139 (h : cp_GA G w) (hk : k < 3) : cc_ne w (w (139 + k)) := h.nn (by omega) (by omega)
/-- what is laid out ahead of the search -/
def cc_K (H : Nat → Int) (M : mj_M) (w : Nat → Nat) : Prop := M.1 (w 125) 5 = H 0 ∧ M.1 (w 125) 6 = H 1 ∧ M.1 (w 125) 15 = ((cs_t H ^ 4 : Nat) : Int) ∧ (∀ k, k < cs_t H → M.1 (w 127) k = H (10 + 9 * k)) ∧ (∀ k j, k < cs_t H → j < 12 → M.1 (w (130 + k)) j = cs_gain H k j) ∧ (∀ k j, k < cs_t H → j ≤ 12 → M.1 (w (134 + k)) j = cs_all H k (12 - j) j) ∧ (∀ j, j ≤ 12 → M.1 (w 137) j = cs_bestof H (12 - j) j) ∧ (∀ k i, k < cs_t H → i < cs_t H ^ 4 → M.1 (w (139 + k)) i = cw_g H k 4 8 i) ∧ (∀ i, i < cs_t H ^ 4 → M.1 (w 142) i = cw_c H 4 i) ∧ (∀ i, i < cs_t H ^ 4 → M.1 (w 143) i = ((i / cs_t H ^ 3 : Nat) : Int))
theorem cc_K.br (h : cc_K H M w) (hk : k < cs_t H) : M.1 (w 127) k = H (10 + 9 * k) := h.2.2.2.1 k hk
theorem cc_K.gn (h : cc_K H M w) (hk : k < cs_t H) (hj : j < 12) : M.1 (w (130 + k)) j = cs_gain H k j := h.2.2.2.2.1 k j hk hj
theorem cc_K.rs (h : cc_K H M w) (hk : k < cs_t H) (hj : j ≤ 12) : M.1 (w (134 + k)) j = cs_all H k (12 - j) j := h.2.2.2.2.2.1 k j hk hj
theorem cc_K.rb (h : cc_K H M w) (hj : j ≤ 12) : M.1 (w 137) j = cs_bestof H (12 - j) j := h.2.2.2.2.2.2.1 j hj
theorem cc_K.tg (h : cc_K H M w) (hk : k < cs_t H) (hi : i < cs_t H ^ 4) : M.1 (w (139 + k)) i = cw_g H k 4 8 i := h.2.2.2.2.2.2.2.1 k i hk hi
theorem cc_K.tc (h : cc_K H M w) (hi : i < cs_t H ^ 4) : M.1 (w 142) i = cw_c H 4 i := h.2.2.2.2.2.2.2.2.1 i hi
theorem cc_K.tt (h : cc_K H M w) (hi : i < cs_t H ^ 4) : M.1 (w 143) i = ((i / cs_t H ^ 3 : Nat) : Int) := h.2.2.2.2.2.2.2.2.2 i hi
/-- the class amid the search -/
def cc_C (w : Nat → Nat) (M0 : mj_M) (LA PA BE : Nat → Int) (bp : Int) (M : mj_M) : Prop := M.2 = M0.2 ∧ (∀ a, cc_ne w a → M.1 a = M0.1 a) ∧ (∀ k, k ≠ 18 → M.1 (w 125) k = M0.1 (w 125) k) ∧ M.1 (w 125) 18 = bp ∧ (∀ k, k < 3 → M.1 (w 128) k = LA k) ∧ (∀ k, k < 12 → M.1 (w 144) k = PA k) ∧ (∀ k, k < 12 → M.1 (w 145) k = BE k)
theorem cc_C.re : cc_C w M (M.1 (w 128)) (M.1 (w 144)) (M.1 (w 145)) (M.1 (w 125) 18) M := ⟨rfl, fun _ _ => rfl, fun _ _ => rfl, rfl, fun _ _ => rfl, fun _ _ => rfl, fun _ _ => rfl⟩
theorem cc_C.r (h : cc_C w M0 LA PA BE bp M) (e : M0.2.2 a k = some b) : M.2.2 a k = some b := by rw [h.1]; exact e
theorem cc_C.o (h : cc_C w M0 LA PA BE bp M) (n : cc_ne w a) : M.1 a k = M0.1 a k := by rw [h.2.1 a n]
theorem cc_C.la (h : cc_C w M0 LA PA BE bp M) (e : ∀ k, k < 3 → LA k = LA2 k) : cc_C w M0 LA2 PA BE bp M := ⟨h.1, h.2.1, h.2.2.1, h.2.2.2.1, fun k hk => (h.2.2.2.2.1 k hk).trans (e k hk), h.2.2.2.2.2⟩
theorem cc_C.h18 (h : cc_C w M0 LA PA BE bp M) (ga : cp_GA G w) : cc_C w M0 LA PA BE v (mj_p0 M (w 125) 18 v) :=
  ⟨h.1, fun a n => (wz_c n.1).trans (h.2.1 a n), fun k hk => (hn_n (Or.inr hk)).trans (h.2.2.1 k hk), hn_s, fun k hk => (hn_n (Or.inl (ga.ne (by decide) (by decide) (by decide)))).trans (h.2.2.2.2.1 k hk), fun k hk => (hn_n (Or.inl (ga.ne (by decide) (by decide) (by decide)))).trans (h.2.2.2.2.2.1 k hk), fun k hk => (hn_n (Or.inl (ga.ne (by decide) (by decide) (by decide)))).trans (h.2.2.2.2.2.2 k hk)⟩
theorem cc_C.h128 (h : cc_C w M0 LA PA BE bp M) (ga : cp_GA G w) : cc_C w M0 (rv_up LA j v) PA BE bp (mj_p0 M (w 128) j v) :=
  ⟨h.1, fun a n => (wz_c n.2.1).trans (h.2.1 a n), fun k hk => (hn_n (Or.inl (ga.ne (by decide) (by decide) (by decide)))).trans (h.2.2.1 k hk), (hn_n (Or.inl (ga.ne (by decide) (by decide) (by decide)))).trans h.2.2.2.1, cp_up h.2.2.2.2.1, fun k hk => (hn_n (Or.inl (ga.ne (by decide) (by decide) (by decide)))).trans (h.2.2.2.2.2.1 k hk), fun k hk => (hn_n (Or.inl (ga.ne (by decide) (by decide) (by decide)))).trans (h.2.2.2.2.2.2 k hk)⟩
theorem cc_C.h144 (h : cc_C w M0 LA PA BE bp M) (ga : cp_GA G w) : cc_C w M0 LA (rv_up PA j v) BE bp (mj_p0 M (w 144) j v) :=
  ⟨h.1, fun a n => (wz_c n.2.2.1).trans (h.2.1 a n), fun k hk => (hn_n (Or.inl (ga.ne (by decide) (by decide) (by decide)))).trans (h.2.2.1 k hk), (hn_n (Or.inl (ga.ne (by decide) (by decide) (by decide)))).trans h.2.2.2.1, fun k hk => (hn_n (Or.inl (ga.ne (by decide) (by decide) (by decide)))).trans (h.2.2.2.2.1 k hk), cp_up h.2.2.2.2.2.1, fun k hk => (hn_n (Or.inl (ga.ne (by decide) (by decide) (by decide)))).trans (h.2.2.2.2.2.2 k hk)⟩
theorem cc_C.h145 (h : cc_C w M0 LA PA BE bp M) (ga : cp_GA G w) : cc_C w M0 LA PA (rv_up BE j v) bp (mj_p0 M (w 145) j v) :=
  ⟨h.1, fun a n => (wz_c n.2.2.2).trans (h.2.1 a n), fun k hk => (hn_n (Or.inl (ga.ne (by decide) (by decide) (by decide)))).trans (h.2.2.1 k hk), (hn_n (Or.inl (ga.ne (by decide) (by decide) (by decide)))).trans h.2.2.2.1, fun k hk => (hn_n (Or.inl (ga.ne (by decide) (by decide) (by decide)))).trans (h.2.2.2.2.1 k hk), fun k hk => (hn_n (Or.inl (ga.ne (by decide) (by decide) (by decide)))).trans (h.2.2.2.2.2.1 k hk), cp_up h.2.2.2.2.2.2⟩
end CG
theorem r_X0_costOf {G : mj_G} {M0 : mj_M} {w : Nat → Nat} {H : Nat → Int} {Q : mj_P} {d : Nat} (ga : cp_GA G w) (gb : cp_BA M0 w) (hK : cc_K H M0 w) (hr : rv_r4 H 0) (t1 : 1 ≤ H 0) (t3 : H 0 ≤ 3) {M : mj_M} {LA PA BE : Nat → Int} {bp : Int} (hC : cc_C w M0 LA PA BE bp M) {fr to : Int} (f0 : 0 ≤ fr) (f3 : fr ≤ H 0) (t0 : 0 ≤ to) (tt : to < H 0) (h : Q (some (.inl (cs_cost H fr.toNat to.toNat))) G M) : mj_R mj_tab (d + 1) 1 [.inr (.inr (some (w 125))), .inl fr, .inl to] G M Q := by
  have et := cs_te hr
  have b1 := cs_r1 hr
  have tb := cs_rt hr (j := (9 * to + 10).toNat) (by omega) (by omega)
  have eb9 : 10 + 9 * to.toNat = (9 * to + 10).toNat := by omega
  refine ⟨Nat.le_of_ble_eq_true rfl, ?_⟩
  show wz d mt_X0_costOf.2.2.2.2.1 Q mt_X0_costOf.2.2.2.2.1 [some (.inr (.inr (some (w 125)))), some (.inl fr), some (.inl to)] [] G M _ _
  refine w_iln rfl ?_
  refine w_iln rfl ?_
  refine w_cmne (fun c1 => ?_) (fun c1 => ?_)
  · skip
    refine w_aln rfl ?_
    refine w_gi ga.g125 rfl (by decide) rfl ((hC.2.2.1 6 (by decide)).trans hK.2.1) ?_
    refine w_iln rfl ?_
    refine w_iln rfl ?_
    refine w_sub ⟨by show (-2147483648 : Int) ≤ fr - to; omega, by show fr - to < (2147483648 : Int); omega⟩ ?_
    refine w_abs (Nat.le_of_ble_eq_true rfl) ?_
    intro z2 fz2 gz2
    have mb3 := cs_mul_b (u := (H 1)) (z := z2) (n := 3) (by omega) (by omega) (by omega) (by omega)
    refine w_mul ⟨by show (-2147483648 : Int) ≤ (H 1) * z2; omega, by show (H 1) * z2 < (2147483648 : Int); omega⟩ ?_
    refine w_aln rfl ?_
    refine w_gr ga.g125 rfl (by decide) rfl (hC.r (gb.r125_7)) ?_
    refine w_iln rfl ?_
    refine w_iald (v := (H (9 * to + 10).toNat)) ga.g127 rfl (by show (0 : Int) ≤ to; omega) (by show to < ((3 : Nat) : Int); omega) ((hC.o ga.n127).trans ((hK.br (by omega)).trans (congrArg H (by omega)))) ?_
    refine w_add ⟨by show (-2147483648 : Int) ≤ ((H 1) * z2) + (H (9 * to + 10).toNat); omega, by show ((H 1) * z2) + (H (9 * to + 10).toNat) < (2147483648 : Int); omega⟩ ?_
    have ev : ((H 1) * z2) + (H (9 * to + 10).toNat) = cs_cost H fr.toNat to.toNat := cs_cost_i (z := z2) (by unfold cs_d; split <;> omega) (by rw [if_pos ⟨by omega, by omega⟩, eb9])
    exact w_iret (fun q => by cases q) (by rw [ev]; exact h)
  · skip
    refine w_ic ?_
    refine w_goto ?_
    have ev : (0 : Int) = cs_cost H fr.toNat to.toNat := by rw [show fr.toNat = to.toNat by omega, cs_cost_s]
    exact w_iret (fun q => by cases q) (by rw [ev]; exact h)
theorem r_la {G : mj_G} {M0 : mj_M} {w : Nat → Nat} {H : Nat → Int} {Q : mj_P} {d : Nat} (ga : cp_GA G w) (gb : cp_BA M0 w) (hK : cc_K H M0 w) (hr : rv_r4 H 0) (t1 : 1 ≤ H 0) (t3 : H 0 ≤ 3) {M : mj_M} {LA PA BE : Nat → Int} {bp : Int} (hC : cc_C w M0 LA PA BE bp M) (h1 : (∃ k, k < cs_t H ∧ 0 < LA k) → Q (some (.inl 1)) G M) (h0 : cs_met H LA → Q (some (.inl 0)) G M) : ∀ (n : Nat) (k : Int) (cb sb : Nat), k + n = H 0 → 0 ≤ k → (∀ j : Nat, (j : Int) < k → LA j ≤ 0) → wz d mt_X0_lacksAny.2.2.2.2.1 Q (mt_X0_lacksAny.2.2.2.2.1.drop 2) [some (.inr (.inr (some (w 125)))), some (.inl k)] [] G M cb sb := by
  have et := cs_te hr
  have b1 := cs_r1 hr
  intro n
  induction n with
  | zero =>
    intro k cb sb e k0 hk
    refine w_iln rfl ?_
    refine w_aln rfl ?_
    refine w_gi ga.g125 rfl (by decide) rfl ((hC.2.2.1 5 (by decide)).trans hK.1) ?_
    refine w_cmge (fun c1 => ?_) (fun c1 => ?_)
    · skip
      refine w_ic ?_
      exact w_iret (fun _ => Or.inl rfl) (h0 (fun j hj => hk j (by omega)))
    · exfalso; omega
  | succ n ih =>
    intro k cb sb e k0 hk
    refine w_iln rfl ?_
    refine w_aln rfl ?_
    refine w_gi ga.g125 rfl (by decide) rfl ((hC.2.2.1 5 (by decide)).trans hK.1) ?_
    refine w_cmge (fun c1 => ?_) (fun c1 => ?_)
    · exfalso; omega
    · skip
      refine w_aln rfl ?_
      refine w_gr ga.g125 rfl (by decide) rfl (hC.r (gb.r125_8)) ?_
      refine w_iln rfl ?_
      refine w_iald (v := (LA k.toNat)) ga.g128 rfl (by show (0 : Int) ≤ k; omega) (by show k < ((3 : Nat) : Int); omega) (hC.2.2.2.2.1 _ (by show k.toNat < 3; omega)) ?_
      refine w_ifle (fun c2 => ?_) (fun c2 => ?_)
      · skip
        refine w_ii rfl ⟨by show (-2147483648 : Int) ≤ k + 1; omega, by show k + 1 < (2147483648 : Int); omega⟩ ?_
        show wz _ _ _ _ [some (.inr (.inr (some (w 125)))), some (.inl (k + 1))] _ _ _ _ _
        refine w_goto ?_
        exact ih (k + 1) _ _ (by omega) (by omega) (fun j hj => by
                  by_cases ej : (j : Int) = k
                  · have e2 : j = k.toNat := by omega
                    subst e2; omega
                  · exact hk j (by omega))
      · skip
        refine w_ic ?_
        exact w_iret (fun _ => Or.inr rfl) (h1 ⟨k.toNat, by omega, by omega⟩)
theorem r_X0_lacksAny {G : mj_G} {M0 : mj_M} {w : Nat → Nat} {H : Nat → Int} {Q : mj_P} {d : Nat} (ga : cp_GA G w) (gb : cp_BA M0 w) (hK : cc_K H M0 w) (hr : rv_r4 H 0) (t1 : 1 ≤ H 0) (t3 : H 0 ≤ 3) {M : mj_M} {LA PA BE : Nat → Int} {bp : Int} (hC : cc_C w M0 LA PA BE bp M) (h1 : (∃ k, k < cs_t H ∧ 0 < LA k) → Q (some (.inl 1)) G M) (h0 : cs_met H LA → Q (some (.inl 0)) G M) : mj_R mj_tab (d + 1) 6 [.inr (.inr (some (w 125)))] G M Q := by
  have et := cs_te hr
  refine ⟨Nat.le_of_ble_eq_true rfl, ?_⟩
  show wz d mt_X0_lacksAny.2.2.2.2.1 Q mt_X0_lacksAny.2.2.2.2.1 [some (.inr (.inr (some (w 125)))), none] [] G M _ _
  refine w_ic ?_
  refine w_isn ?_
  exact r_la ga gb hK hr t1 t3 hC h1 h0 (cs_t H) 0 _ _ (by omega) (by decide) (fun j hj => absurd hj (by omega))
theorem cs_bo_9 {H : Nat → Int} (h : rv_r4 H 0) : ∀ (r m : Nat), m + r ≤ 12 → 0 ≤ cs_bestof H r m ∧ cs_bestof H r m ≤ 999 * r
  | 0, _, _ => ⟨Int.le_refl _, Int.le_refl _⟩
  | r + 1, m, e => by
    have h1 := cs_bo_9 h r (m + 1) (by omega)
    have h2 : ∀ n, n ≤ 8 → 0 ≤ cs_most H m n ∧ cs_most H m n ≤ 999 := by
      intro n
      induction n with
      | zero => exact fun _ => ⟨Int.le_refl _, by show (0 : Int) ≤ 999; decide⟩
      | succ n ih =>
        intro hn
        have h3 := ih (by omega)
        have h4 := cs_gain_9 h (k := n) (m := m) (by omega) (by omega)
        show 0 ≤ max (cs_most H m n) (cs_gain H n m) ∧ max (cs_most H m n) (cs_gain H n m) ≤ 999
        omega
    have h3 := h2 (cs_t H) (by have := cs_te h; have := h.1; omega)
    show 0 ≤ cs_bestof H r (m + 1) + cs_most H m (cs_t H) ∧ cs_bestof H r (m + 1) + cs_most H m (cs_t H) ≤ _
    omega
theorem r_cb2 {G : mj_G} {M0 : mj_M} {w : Nat → Nat} {H : Nat → Int} {Q : mj_P} {d : Nat} (ga : cp_GA G w) (gb : cp_BA M0 w) (hK : cc_K H M0 w) (hr : rv_r4 H 0) (t1 : 1 ≤ H 0) (t3 : H 0 ≤ 3) {M : mj_M} {LA PA BE : Nat → Int} {bp : Int} (hC : cc_C w M0 LA PA BE bp M) {mi : Int} (m0 : 0 ≤ mi) (m12 : mi ≤ 12) (hl : ∀ k : Nat, (k : Int) < H 0 → -20000 ≤ LA k ∧ LA k ≤ 20000) (h1 : Q (some (.inl 1)) G M) (h0 : ((∃ k, k < cs_t H ∧ cs_all H k (12 - mi.toNat) mi.toNat < LA k) ∨ cs_bestof H (12 - mi.toNat) mi.toNat < cs_sum LA (cs_t H)) → Q (some (.inl 0)) G M) : ∀ (n : Nat) (k : Int) (al : Int) (cb sb : Nat), k + n = H 0 → 0 ≤ k → al = cs_sum LA k.toNat → 0 ≤ al → al ≤ 20000 * k → wz d mt_X0_canBe.2.2.2.2.1 Q (mt_X0_canBe.2.2.2.2.1.drop 4) [some (.inr (.inr (some (w 125)))), some (.inl mi), some (.inl al), some (.inl k)] [] G M cb sb := by
  have et := cs_te hr
  have b1 := cs_r1 hr
  have bo := cs_bo_9 hr (12 - mi.toNat) mi.toNat (by omega)
  intro n
  induction n with
  | zero =>
    intro k al cb sb e k0 eal a0 a1
    refine w_iln rfl ?_
    refine w_aln rfl ?_
    refine w_gi ga.g125 rfl (by decide) rfl ((hC.2.2.1 5 (by decide)).trans hK.1) ?_
    refine w_cmge (fun c1 => ?_) (fun c1 => ?_)
    · skip
      refine w_iln rfl ?_
      refine w_aln rfl ?_
      refine w_gr ga.g125 rfl (by decide) rfl (hC.r (gb.r125_11)) ?_
      refine w_iln rfl ?_
      refine w_iald (v := (cs_bestof H (12 - mi.toNat) mi.toNat)) ga.g137 rfl (by show (0 : Int) ≤ mi; omega) (by show mi < ((13 : Nat) : Int); omega) ((hC.o ga.n137).trans (hK.rb (by omega))) ?_
      refine w_cmgt (fun c2 => ?_) (fun c2 => ?_)
      · skip
        refine w_ic ?_
        exact w_iret (fun _ => Or.inl rfl) (h0 (Or.inr (by rw [show cs_t H = k.toNat by omega, ← eal]; omega)))
      · skip
        refine w_ic ?_
        refine w_goto ?_
        exact w_iret (fun _ => Or.inr rfl) h1
    · exfalso; omega
  | succ n ih =>
    intro k al cb sb e k0 eal a0 a1
    have lk := hl k.toNat (by omega)
    have ak := cs_all_9 hr (k := k.toNat) (by omega) (12 - mi.toNat) mi.toNat (by omega)
    refine w_iln rfl ?_
    refine w_aln rfl ?_
    refine w_gi ga.g125 rfl (by decide) rfl ((hC.2.2.1 5 (by decide)).trans hK.1) ?_
    refine w_cmge (fun c1 => ?_) (fun c1 => ?_)
    · exfalso; omega
    · skip
      refine w_aln rfl ?_
      refine w_gr ga.g125 rfl (by decide) rfl (hC.r (gb.r125_8)) ?_
      refine w_iln rfl ?_
      refine w_iald (v := (LA k.toNat)) ga.g128 rfl (by show (0 : Int) ≤ k; omega) (by show k < ((3 : Nat) : Int); omega) (hC.2.2.2.2.1 _ (by show k.toNat < 3; omega)) ?_
      refine w_aln rfl ?_
      refine w_gr ga.g125 rfl (by decide) rfl (hC.r (gb.r125_10)) ?_
      refine w_iln rfl ?_
      refine w_aald ga.g133 rfl (by show (0 : Int) ≤ k; omega) (by show k < ((3 : Nat) : Int); omega) (hC.r (gb.w134 (by show k.toNat < 3; omega))) ?_
      refine w_iln rfl ?_
      refine w_iald (v := (cs_all H k.toNat (12 - mi.toNat) mi.toNat)) (ga.w134 (by show k.toNat < 3; omega)) rfl (by show (0 : Int) ≤ mi; omega) (by show mi < ((13 : Nat) : Int); omega) ((hC.o (ga.n134 (by omega))).trans (hK.rs (by omega) (by omega))) ?_
      refine w_cmle (fun c2 => ?_) (fun c2 => ?_)
      · skip
        refine w_iln rfl ?_
        refine w_ic ?_
        refine w_aln rfl ?_
        refine w_gr ga.g125 rfl (by decide) rfl (hC.r (gb.r125_8)) ?_
        refine w_iln rfl ?_
        refine w_iald (v := (LA k.toNat)) ga.g128 rfl (by show (0 : Int) ≤ k; omega) (by show k < ((3 : Nat) : Int); omega) (hC.2.2.2.2.1 _ (by show k.toNat < 3; omega)) ?_
        refine w_max (Nat.le_of_ble_eq_true rfl) ?_
        intro z3 fz3 gz3
        refine w_add ⟨by show (-2147483648 : Int) ≤ al + z3; omega, by show al + z3 < (2147483648 : Int); omega⟩ ?_
        refine w_isn ?_
        show wz _ _ _ _ [some (.inr (.inr (some (w 125)))), some (.inl mi), some (.inl (al + z3)), some (.inl k)] _ _ _ _ _
        refine w_ii rfl ⟨by show (-2147483648 : Int) ≤ k + 1; omega, by show k + 1 < (2147483648 : Int); omega⟩ ?_
        show wz _ _ _ _ [some (.inr (.inr (some (w 125)))), some (.inl mi), some (.inl (al + z3)), some (.inl (k + 1))] _ _ _ _ _
        refine w_goto ?_
        refine ih (k + 1) _ _ _ (by omega) (by omega) ?_ (by omega) (by omega)
        rw [show (k + 1).toNat = k.toNat + 1 by omega]
        show al + z3 = cs_sum LA k.toNat + max 0 (LA k.toNat)
        omega
      · skip
        refine w_ic ?_
        exact w_iret (fun _ => Or.inl rfl) (h0 (Or.inl ⟨k.toNat, by omega, by omega⟩))
theorem r_X0_canBe {G : mj_G} {M0 : mj_M} {w : Nat → Nat} {H : Nat → Int} {Q : mj_P} {d : Nat} (ga : cp_GA G w) (gb : cp_BA M0 w) (hK : cc_K H M0 w) (hr : rv_r4 H 0) (t1 : 1 ≤ H 0) (t3 : H 0 ≤ 3) {M : mj_M} {LA PA BE : Nat → Int} {bp : Int} (hC : cc_C w M0 LA PA BE bp M) {mi : Int} (m0 : 0 ≤ mi) (m12 : mi ≤ 12) (hl : ∀ k : Nat, (k : Int) < H 0 → -20000 ≤ LA k ∧ LA k ≤ 20000) (h1 : Q (some (.inl 1)) G M) (h0 : ((∃ k, k < cs_t H ∧ cs_all H k (12 - mi.toNat) mi.toNat < LA k) ∨ cs_bestof H (12 - mi.toNat) mi.toNat < cs_sum LA (cs_t H)) → Q (some (.inl 0)) G M) : mj_R mj_tab (d + 1) 0 [.inr (.inr (some (w 125))), .inl mi] G M Q := by
  have et := cs_te hr
  refine ⟨Nat.le_of_ble_eq_true rfl, ?_⟩
  show wz d mt_X0_canBe.2.2.2.2.1 Q mt_X0_canBe.2.2.2.2.1 [some (.inr (.inr (some (w 125)))), some (.inl mi), none, none] [] G M _ _
  refine w_ic ?_
  refine w_isn ?_
  refine w_ic ?_
  refine w_isn ?_
  exact r_cb2 ga gb hK hr t1 t3 hC m0 m12 hl h1 h0 (cs_t H) 0 0 _ _ (by omega) (by decide) rfl (by decide) (by decide)
theorem cs_bk_9 (b : Nat → Bool) (a : Nat) : ∀ n, cs_bk b a n ≤ a
  | 0 => Nat.zero_le _
  | n + 1 => by
    have := cs_bk_9 b a n
    show (if b n = true then max (cs_bk b a n) (a - n) else cs_bk b a n) ≤ a
    split <;> omega
theorem cs_ah_9 (b : Nat → Bool) (a : Nat) : ∀ n, cs_ah b a n ≤ n
  | 0 => Nat.zero_le _
  | n + 1 => by
    have := cs_ah_9 b a n
    show (if b n = true then max (cs_ah b a n) (n - a) else cs_ah b a n) ≤ n + 1
    split <;> omega
theorem cs_LB_9 {H : Nat → Int} (h : rv_r4 H 0) (h3 : H 0 ≤ 3) {b : Nat → Bool} {a : Nat} (ha : a ≤ cs_t H) : 0 ≤ cs_LB H b a ∧ cs_LB H b a ≤ 3888 := by
  have e := cs_te h
  have b1 := cs_r1 h
  have x1 := cs_bk_9 b a (cs_t H)
  have x2 := cs_ah_9 b a (cs_t H)
  have x3 : cs_far b a (cs_t H) ≤ 9 := by unfold cs_far; omega
  have x4 := cs_mul_b b1.1 b1.2 (z := ((cs_far b a (cs_t H) : Nat) : Int)) (n := 9) (by omega) (by omega)
  have x5 : ∀ n, n ≤ cs_t H → 0 ≤ cs_tp H b a n ∧ cs_tp H b a n ≤ 999 * n := by
    intro n
    induction n with
    | zero => exact fun _ => ⟨Int.le_refl _, Int.le_refl _⟩
    | succ n ih =>
      intro hn
      have h3 := ih (by omega)
      have h4 := cs_rt h (j := 10 + 9 * n) (by omega) (by omega)
      show 0 ≤ cs_tp H b a n + _ ∧ cs_tp H b a n + _ ≤ _
      split <;> omega
  have x6 := x5 _ (Nat.le_refl _)
  unfold cs_LB
  omega
theorem r_lc {G : mj_G} {M0 : mj_M} {w : Nat → Nat} {H : Nat → Int} {Q : mj_P} {d : Nat} (ga : cp_GA G w) (gb : cp_BA M0 w) (hK : cc_K H M0 w) (hr : rv_r4 H 0) (t1 : 1 ≤ H 0) (t3 : H 0 ≤ 3) {M : mj_M} {LA PA BE : Nat → Int} {bp : Int} (hC : cc_C w M0 LA PA BE bp M) {at_ : Int} (a0 : 0 ≤ at_) (a3 : at_ ≤ H 0) (h : Q (some (.inl (cs_LB H (cs_b LA) at_.toNat))) G M) : ∀ (n : Nat) (k bk ah tp : Int) (cb sb : Nat), k + n = H 0 → 0 ≤ k → bk = ((cs_bk (cs_b LA) at_.toNat k.toNat : Nat) : Int) → ah = ((cs_ah (cs_b LA) at_.toNat k.toNat : Nat) : Int) → tp = cs_tp H (cs_b LA) at_.toNat k.toNat → 0 ≤ tp → tp ≤ 999 * k → wz d mt_X0_leastToCome.2.2.2.2.1 Q (mt_X0_leastToCome.2.2.2.2.1.drop 8) [some (.inr (.inr (some (w 125)))), some (.inl at_), some (.inl bk), some (.inl ah), some (.inl tp), some (.inl k)] [] G M cb sb := by
  have et := cs_te hr
  have b1 := cs_r1 hr
  have bk9 := fun n => cs_bk_9 (cs_b LA) at_.toNat n
  have ah9 := fun n => cs_ah_9 (cs_b LA) at_.toNat n
  intro n
  induction n with
  | zero =>
    intro k bk ah tp cb sb e k0 eb ea ep p0 p1
    have x1 := bk9 k.toNat
    have x2 := ah9 k.toNat
    refine w_il rfl ?_
    refine w_aln rfl ?_
    refine w_gi ga.g125 rfl (by decide) rfl ((hC.2.2.1 5 (by decide)).trans hK.1) ?_
    refine w_cmge (fun c1 => ?_) (fun c1 => ?_)
    · skip
      refine w_il rfl ?_
      refine w_aln rfl ?_
      refine w_gi ga.g125 rfl (by decide) rfl ((hC.2.2.1 6 (by decide)).trans hK.2.1) ?_
      refine w_iln rfl ?_
      refine w_iln rfl ?_
      refine w_add ⟨by show (-2147483648 : Int) ≤ bk + ah; omega, by show bk + ah < (2147483648 : Int); omega⟩ ?_
      refine w_iln rfl ?_
      refine w_iln rfl ?_
      refine w_min (Nat.le_of_ble_eq_true rfl) ?_
      intro z2 fz2 gz2
      refine w_add ⟨by show (-2147483648 : Int) ≤ (bk + ah) + z2; omega, by show (bk + ah) + z2 < (2147483648 : Int); omega⟩ ?_
      have mb3 := cs_mul_b (u := (H 1)) (z := (bk + ah) + z2) (n := 9) (by omega) (by omega) (by omega) (by omega)
      refine w_mul ⟨by show (-2147483648 : Int) ≤ (H 1) * ((bk + ah) + z2); omega, by show (H 1) * ((bk + ah) + z2) < (2147483648 : Int); omega⟩ ?_
      refine w_add ⟨by show (-2147483648 : Int) ≤ tp + ((H 1) * ((bk + ah) + z2)); omega, by show tp + ((H 1) * ((bk + ah) + z2)) < (2147483648 : Int); omega⟩ ?_
      have ev : tp + ((H 1) * ((bk + ah) + z2)) = cs_LB H (cs_b LA) at_.toNat := by
        have ef : (bk + ah) + z2 = ((cs_far (cs_b LA) at_.toNat (cs_t H) : Nat) : Int) := by
          rw [show cs_t H = k.toNat by omega]
          show _ = ((cs_bk (cs_b LA) at_.toNat k.toNat + cs_ah (cs_b LA) at_.toNat k.toNat + min (cs_bk (cs_b LA) at_.toNat k.toNat) (cs_ah (cs_b LA) at_.toNat k.toNat) : Nat) : Int)
          omega
        rw [ef, ep, show k.toNat = cs_t H by omega]
        rfl
      exact w_iret (fun q => by cases q) (by rw [ev]; exact h)
    · exfalso; omega
  | succ n ih =>
    intro k bk ah tp cb sb e k0 eb ea ep p0 p1
    have x1 := bk9 k.toNat
    have x2 := ah9 k.toNat
    have tb := cs_rt hr (j := (9 * k + 10).toNat) (by omega) (by omega)
    have eb9 : 10 + 9 * k.toNat = (9 * k + 10).toNat := by omega
    have e1 : (k + 1).toNat = k.toNat + 1 := by omega
    refine w_il rfl ?_
    refine w_aln rfl ?_
    refine w_gi ga.g125 rfl (by decide) rfl ((hC.2.2.1 5 (by decide)).trans hK.1) ?_
    refine w_cmge (fun c1 => ?_) (fun c1 => ?_)
    · exfalso; omega
    · skip
      refine w_aln rfl ?_
      refine w_gr ga.g125 rfl (by decide) rfl (hC.r (gb.r125_8)) ?_
      refine w_il rfl ?_
      refine w_iald (v := (LA k.toNat)) ga.g128 rfl (by show (0 : Int) ≤ k; omega) (by show k < ((3 : Nat) : Int); omega) (hC.2.2.2.2.1 _ (by show k.toNat < 3; omega)) ?_
      refine w_ifle (fun c2 => ?_) (fun c2 => ?_)
      · skip
        refine w_ii rfl ⟨by show (-2147483648 : Int) ≤ k + 1; omega, by show k + 1 < (2147483648 : Int); omega⟩ ?_
        show wz _ _ _ _ [some (.inr (.inr (some (w 125)))), some (.inl at_), some (.inl bk), some (.inl ah), some (.inl tp), some (.inl (k + 1))] _ _ _ _ _
        refine w_goto ?_
        have hb : cs_b LA k.toNat = false := decide_eq_false (by omega)
        have f1 : cs_bk (cs_b LA) at_.toNat (k.toNat + 1) = cs_bk (cs_b LA) at_.toNat k.toNat := by
          show (if cs_b LA k.toNat = true then _ else _) = _
          rw [hb]; rfl
        have f2 : cs_ah (cs_b LA) at_.toNat (k.toNat + 1) = cs_ah (cs_b LA) at_.toNat k.toNat := by
          show (if cs_b LA k.toNat = true then _ else _) = _
          rw [hb]; rfl
        have f3 : cs_tp H (cs_b LA) at_.toNat (k.toNat + 1) = cs_tp H (cs_b LA) at_.toNat k.toNat := by
          show cs_tp H (cs_b LA) at_.toNat k.toNat + (if cs_b LA k.toNat = true ∧ k.toNat ≠ at_.toNat then H (10 + 9 * k.toNat) else 0) = _
          rw [if_neg (fun z => by rw [hb] at z; cases z.1), Int.add_zero]
        exact ih (k + 1) _ _ _ _ _ (by omega) (by omega) (by rw [e1, f1]; omega) (by rw [e1, f2]; omega) (by rw [e1, f3]; omega) (by omega) (by omega)
      · skip
        refine w_il rfl ?_
        refine w_iln rfl ?_
        refine w_cmeq (fun c3 => ?_) (fun c3 => ?_)
        · skip
          refine w_ii rfl ⟨by show (-2147483648 : Int) ≤ k + 1; omega, by show k + 1 < (2147483648 : Int); omega⟩ ?_
          show wz _ _ _ _ [some (.inr (.inr (some (w 125)))), some (.inl at_), some (.inl bk), some (.inl ah), some (.inl tp), some (.inl (k + 1))] _ _ _ _ _
          refine w_goto ?_
          have hb : cs_b LA k.toNat = true := decide_eq_true (by omega)
          have f1 : cs_bk (cs_b LA) at_.toNat (k.toNat + 1) = max (cs_bk (cs_b LA) at_.toNat k.toNat) (at_.toNat - k.toNat) := by
            show (if cs_b LA k.toNat = true then _ else _) = _
            rw [hb]; rfl
          have f2 : cs_ah (cs_b LA) at_.toNat (k.toNat + 1) = max (cs_ah (cs_b LA) at_.toNat k.toNat) (k.toNat - at_.toNat) := by
            show (if cs_b LA k.toNat = true then _ else _) = _
            rw [hb]; rfl
          have f3 : cs_tp H (cs_b LA) at_.toNat (k.toNat + 1) = cs_tp H (cs_b LA) at_.toNat k.toNat := by
            show cs_tp H (cs_b LA) at_.toNat k.toNat + (if cs_b LA k.toNat = true ∧ k.toNat ≠ at_.toNat then H (10 + 9 * k.toNat) else 0) = _
            rw [if_neg (fun z => z.2 (by omega)), Int.add_zero]
          exact ih (k + 1) _ _ _ _ _ (by omega) (by omega) (by rw [e1, f1]; omega) (by rw [e1, f2]; omega) (by rw [e1, f3]; omega) (by omega) (by omega)
        · skip
          refine w_il rfl ?_
          refine w_aln rfl ?_
          refine w_gr ga.g125 rfl (by decide) rfl (hC.r (gb.r125_7)) ?_
          refine w_il rfl ?_
          refine w_iald (v := (H (9 * k + 10).toNat)) ga.g127 rfl (by show (0 : Int) ≤ k; omega) (by show k < ((3 : Nat) : Int); omega) ((hC.o ga.n127).trans ((hK.br (by omega)).trans (congrArg H (by omega)))) ?_
          refine w_add ⟨by show (-2147483648 : Int) ≤ tp + (H (9 * k + 10).toNat); omega, by show tp + (H (9 * k + 10).toNat) < (2147483648 : Int); omega⟩ ?_
          refine w_is ?_
          show wz _ _ _ _ [some (.inr (.inr (some (w 125)))), some (.inl at_), some (.inl bk), some (.inl ah), some (.inl (tp + (H (9 * k + 10).toNat))), some (.inl k)] _ _ _ _ _
          refine w_iln rfl ?_
          refine w_iln rfl ?_
          refine w_il rfl ?_
          refine w_sub ⟨by show (-2147483648 : Int) ≤ at_ - k; omega, by show at_ - k < (2147483648 : Int); omega⟩ ?_
          refine w_max (Nat.le_of_ble_eq_true rfl) ?_
          intro z4 fz4 gz4
          refine w_isn ?_
          show wz _ _ _ _ [some (.inr (.inr (some (w 125)))), some (.inl at_), some (.inl z4), some (.inl ah), some (.inl (tp + (H (9 * k + 10).toNat))), some (.inl k)] _ _ _ _ _
          refine w_iln rfl ?_
          refine w_il rfl ?_
          refine w_iln rfl ?_
          refine w_sub ⟨by show (-2147483648 : Int) ≤ k - at_; omega, by show k - at_ < (2147483648 : Int); omega⟩ ?_
          refine w_max (Nat.le_of_ble_eq_true rfl) ?_
          intro z5 fz5 gz5
          refine w_isn ?_
          show wz _ _ _ _ [some (.inr (.inr (some (w 125)))), some (.inl at_), some (.inl z4), some (.inl z5), some (.inl (tp + (H (9 * k + 10).toNat))), some (.inl k)] _ _ _ _ _
          refine w_ii rfl ⟨by show (-2147483648 : Int) ≤ k + 1; omega, by show k + 1 < (2147483648 : Int); omega⟩ ?_
          show wz _ _ _ _ [some (.inr (.inr (some (w 125)))), some (.inl at_), some (.inl z4), some (.inl z5), some (.inl (tp + (H (9 * k + 10).toNat))), some (.inl (k + 1))] _ _ _ _ _
          refine w_goto ?_
          have hb : cs_b LA k.toNat = true := decide_eq_true (by omega)
          have f1 : cs_bk (cs_b LA) at_.toNat (k.toNat + 1) = max (cs_bk (cs_b LA) at_.toNat k.toNat) (at_.toNat - k.toNat) := by
            show (if cs_b LA k.toNat = true then _ else _) = _
            rw [hb]; rfl
          have f2 : cs_ah (cs_b LA) at_.toNat (k.toNat + 1) = max (cs_ah (cs_b LA) at_.toNat k.toNat) (k.toNat - at_.toNat) := by
            show (if cs_b LA k.toNat = true then _ else _) = _
            rw [hb]; rfl
          have f3 : cs_tp H (cs_b LA) at_.toNat (k.toNat + 1) = cs_tp H (cs_b LA) at_.toNat k.toNat + H (9 * k + 10).toNat := by
            show cs_tp H (cs_b LA) at_.toNat k.toNat + (if cs_b LA k.toNat = true ∧ k.toNat ≠ at_.toNat then H (10 + 9 * k.toNat) else 0) = _
            rw [if_pos ⟨hb, by omega⟩, eb9]
          exact ih (k + 1) _ _ _ _ _ (by omega) (by omega) (by rw [e1, f1]; omega) (by rw [e1, f2]; omega) (by rw [e1, f3]; omega) (by omega) (by omega)
theorem r_X0_leastToCome {G : mj_G} {M0 : mj_M} {w : Nat → Nat} {H : Nat → Int} {Q : mj_P} {d : Nat} (ga : cp_GA G w) (gb : cp_BA M0 w) (hK : cc_K H M0 w) (hr : rv_r4 H 0) (t1 : 1 ≤ H 0) (t3 : H 0 ≤ 3) {M : mj_M} {LA PA BE : Nat → Int} {bp : Int} (hC : cc_C w M0 LA PA BE bp M) {at_ : Int} (a0 : 0 ≤ at_) (a3 : at_ ≤ H 0) (h : Q (some (.inl (cs_LB H (cs_b LA) at_.toNat))) G M) : mj_R mj_tab (d + 1) 7 [.inr (.inr (some (w 125))), .inl at_] G M Q := by
  have et := cs_te hr
  refine ⟨Nat.le_of_ble_eq_true rfl, ?_⟩
  show wz d mt_X0_leastToCome.2.2.2.2.1 Q mt_X0_leastToCome.2.2.2.2.1 [some (.inr (.inr (some (w 125)))), some (.inl at_), none, none, none, none] [] G M _ _
  refine w_ic ?_
  refine w_isn ?_
  refine w_ic ?_
  refine w_isn ?_
  refine w_ic ?_
  refine w_is ?_
  refine w_ic ?_
  refine w_is ?_
  exact r_lc ga gb hK hr t1 t3 hC a0 a3 h (cs_t H) 0 0 0 0 _ _ (by omega) (by decide) rfl rfl rfl (by decide) (by decide)
end
section
/-! ===== the cheapest letting: the class, its search (laid by a program) ===== -/
theorem r_kp {G : mj_G} {M0 : mj_M} {w : Nat → Nat} {H : Nat → Int} {Q : mj_P} {d : Nat} (ga : cp_GA G w) (gb : cp_BA M0 w) (hK : cc_K H M0 w) (hr : rv_r4 H 0) (t1 : 1 ≤ H 0) (t3 : H 0 ≤ 3) {M : mj_M} {LA PA : Nat → Int} {mi pd : Int} (m0 : 0 ≤ mi) (m12 : mi ≤ 12) : ∀ (n : Nat) (i : Int) (BE BE0 : Nat → Int) (M : mj_M) (cb sb : Nat), i + n = mi → 0 ≤ i → cc_C w M0 LA PA BE pd M → (∀ j : Nat, (j : Int) < i → BE j = PA j) → (∀ j : Nat, i ≤ (j : Int) → BE j = BE0 j) → (∀ BE M, cc_C w M0 LA PA BE pd M → (∀ j : Nat, (j : Int) < mi → BE j = PA j) → (∀ j : Nat, mi ≤ (j : Int) → BE j = BE0 j) → Q none G M) → wz d mt_X0_keepPath.2.2.2.2.1 Q (mt_X0_keepPath.2.2.2.2.1.drop 5) [some (.inr (.inr (some (w 125)))), some (.inl mi), some (.inl pd), some (.inl i)] [] G M cb sb := by
  intro n
  induction n with
  | zero =>
    intro i BE BE0 M cb sb e i0 hC h1 h2 h
    refine w_iln rfl ?_
    refine w_iln rfl ?_
    refine w_cmge (fun c1 => ?_) (fun c1 => ?_)
    · skip
      exact w_ret (h BE M hC (fun j hj => h1 j (by omega)) (fun j hj => h2 j (by omega)))
    · exfalso; omega
  | succ n ih =>
    intro i BE BE0 M cb sb e i0 hC h1 h2 h
    refine w_iln rfl ?_
    refine w_iln rfl ?_
    refine w_cmge (fun c1 => ?_) (fun c1 => ?_)
    · exfalso; omega
    · skip
      refine w_iln rfl ?_
      refine w_bp ?_
      refine w_cmge (fun c2 => ?_) (fun c2 => ?_)
      · exfalso; omega
      · skip
        refine w_aln rfl ?_
        refine w_gr ga.g125 rfl (by decide) rfl (hC.r (gb.r125_17)) ?_
        refine w_iln rfl ?_
        refine w_aln rfl ?_
        refine w_gr ga.g125 rfl (by decide) rfl (hC.r (gb.r125_16)) ?_
        refine w_iln rfl ?_
        refine w_iald (v := (PA i.toNat)) ga.g144 rfl (by show (0 : Int) ≤ i; omega) (by show i < ((12 : Nat) : Int); omega) (hC.2.2.2.2.2.1 _ (by show i.toNat < 12; omega)) ?_
        refine w_iast ga.g145 rfl (by decide) (by show (0 : Int) ≤ i; omega) (by show i < ((12 : Nat) : Int); omega) ?_
        have hC3 := hC.h145 (j := i.toNat) (v := (PA i.toNat)) ga
        refine w_ii rfl ⟨by show (-2147483648 : Int) ≤ i + 1; omega, by show i + 1 < (2147483648 : Int); omega⟩ ?_
        show wz _ _ _ _ [some (.inr (.inr (some (w 125)))), some (.inl mi), some (.inl pd), some (.inl (i + 1))] _ _ _ _ _
        refine w_goto ?_
        refine ih (i + 1) _ BE0 _ _ _ (by omega) (by omega) hC3 (fun j hj => ?_) (fun j hj => (rv_up_n (by omega)).trans (h2 j (by omega))) h
        by_cases ej : (j : Int) = i
        · rw [show j = i.toNat by omega, rv_up_s]
        · exact (rv_up_n (by omega)).trans (h1 j (by omega))
theorem r_X0_keepPath {G : mj_G} {M0 : mj_M} {w : Nat → Nat} {H : Nat → Int} {Q : mj_P} {d : Nat} (ga : cp_GA G w) (gb : cp_BA M0 w) (hK : cc_K H M0 w) (hr : rv_r4 H 0) (t1 : 1 ≤ H 0) (t3 : H 0 ≤ 3) {M : mj_M} {LA PA BE : Nat → Int} {bp : Int} (hC : cc_C w M0 LA PA BE bp M) {mi pd : Int} (m0 : 0 ≤ mi) (m12 : mi ≤ 12) (h : ∀ BE2 M2, cc_C w M0 LA PA BE2 pd M2 → (∀ j : Nat, (j : Int) < mi → BE2 j = PA j) → (∀ j : Nat, mi ≤ (j : Int) → BE2 j = BE j) → Q none G M2) : mj_R mj_tab (d + 1) 4 [.inr (.inr (some (w 125))), .inl mi, .inl pd] G M Q := by
  refine ⟨Nat.le_of_ble_eq_true rfl, ?_⟩
  show wz d mt_X0_keepPath.2.2.2.2.1 Q mt_X0_keepPath.2.2.2.2.1 [some (.inr (.inr (some (w 125)))), some (.inl mi), some (.inl pd), none] [] G M _ _
  refine w_aln rfl ?_
  refine w_iln rfl ?_
  refine w_pi ga.g125 rfl (by decide) rfl (fun q => by cases q) ?_
  refine w_ic ?_
  refine w_isn ?_
  exact r_kp ga gb hK hr t1 t3 (M := M) m0 m12 mi.toNat 0 BE BE _ _ _ (by omega) (by decide) (hC.h18 ga) (fun j hj => absurd hj (by omega)) (fun _ _ => rfl) h
theorem r_ff {G : mj_G} {M0 : mj_M} {w : Nat → Nat} {H : Nat → Int} {Q : mj_P} {d : Nat} (ga : cp_GA G w) (gb : cp_BA M0 w) (hK : cc_K H M0 w) (hr : rv_r4 H 0) (t1 : 1 ≤ H 0) (t3 : H 0 ≤ 3) {M : mj_M} {LA PA BE : Nat → Int} {bp : Int} (hC : cc_C w M0 LA PA BE bp M) {fr : Int} (f0 : 0 ≤ fr) (f3 : fr ≤ H 0) (h : ∀ p : Nat, p ≤ cs_t H → cs_cost H fr.toNat p = 0 → (∀ j, j < p → cs_cost H fr.toNat j ≠ 0) → Q (some (.inl (p : Int))) G M) : ∀ (n : Nat) (k : Int) (cb sb : Nat), k + n = H 0 → 0 ≤ k → (∀ j : Nat, (j : Int) < k → cs_cost H fr.toNat j ≠ 0) → wz (d + 1) mt_X0_firstForNothing.2.2.2.2.1 Q (mt_X0_firstForNothing.2.2.2.2.1.drop 2) [some (.inr (.inr (some (w 125)))), some (.inl fr), some (.inl k)] [] G M cb sb := by
  have et := cs_te hr
  have b1 := cs_r1 hr
  intro n
  induction n with
  | zero =>
    intro k cb sb e k0 hk
    have hfr : fr = H 0 := by
      rcases (by omega : fr = H 0 ∨ fr < H 0) with z | z
      · exact z
      · exact absurd (cs_cost_s (H := H) fr.toNat) (hk fr.toNat (by omega))
    refine w_iln rfl ?_
    refine w_aln rfl ?_
    refine w_gi ga.g125 rfl (by decide) rfl ((hC.2.2.1 5 (by decide)).trans hK.1) ?_
    refine w_cmge (fun c1 => ?_) (fun c1 => ?_)
    · skip
      refine w_iln rfl ?_
      have h9 := h fr.toNat (by omega) (cs_cost_s _) (fun j hj => hk j (by omega))
      rw [show ((fr.toNat : Nat) : Int) = fr by omega] at h9
      exact w_iret (fun q => by cases q) h9
    · exfalso; omega
  | succ n ih =>
    intro k cb sb e k0 hk
    refine w_iln rfl ?_
    refine w_aln rfl ?_
    refine w_gi ga.g125 rfl (by decide) rfl ((hC.2.2.1 5 (by decide)).trans hK.1) ?_
    refine w_cmge (fun c1 => ?_) (fun c1 => ?_)
    · exfalso; omega
    · skip
      refine w_aln rfl ?_
      refine w_iln rfl ?_
      refine w_iln rfl ?_
      have cb2 := cs_cost_9 hr t3 (a := fr.toNat) (b := k.toNat) (by omega) (by omega)
      refine w_cv (st := []) rfl ga.g125 rfl (Nat.le_of_ble_eq_true rfl) (fun kk h => h) (r_X0_costOf (d := d) ga gb hK hr t1 t3 hC (fr := fr) (to := k) (by omega) (by omega) (by omega) (by omega) ?_)
      refine w_ifne (fun c3 => ?_) (fun c3 => ?_)
      · skip
        refine w_ii rfl ⟨by show (-2147483648 : Int) ≤ k + 1; omega, by show k + 1 < (2147483648 : Int); omega⟩ ?_
        show wz _ _ _ _ [some (.inr (.inr (some (w 125)))), some (.inl fr), some (.inl (k + 1))] _ _ _ _ _
        refine w_goto ?_
        exact ih (k + 1) _ _ (by omega) (by omega) (fun j hj => by
                  by_cases ej : (j : Int) = k
                  · rw [show j = k.toNat by omega]; omega
                  · exact hk j (by omega))
      · skip
        refine w_iln rfl ?_
        have h9 := h k.toNat (by omega) (by omega) (fun j hj => hk j (by omega))
        rw [show ((k.toNat : Nat) : Int) = k by omega] at h9
        exact w_iret (fun q => by cases q) h9
theorem r_X0_firstForNothing {G : mj_G} {M0 : mj_M} {w : Nat → Nat} {H : Nat → Int} {Q : mj_P} {d : Nat} (ga : cp_GA G w) (gb : cp_BA M0 w) (hK : cc_K H M0 w) (hr : rv_r4 H 0) (t1 : 1 ≤ H 0) (t3 : H 0 ≤ 3) {M : mj_M} {LA PA BE : Nat → Int} {bp : Int} (hC : cc_C w M0 LA PA BE bp M) {fr : Int} (f0 : 0 ≤ fr) (f3 : fr ≤ H 0) (h : ∀ p : Nat, p ≤ cs_t H → cs_cost H fr.toNat p = 0 → (∀ j, j < p → cs_cost H fr.toNat j ≠ 0) → Q (some (.inl (p : Int))) G M) : mj_R mj_tab (d + 2) 2 [.inr (.inr (some (w 125))), .inl fr] G M Q := by
  have et := cs_te hr
  refine ⟨Nat.le_of_ble_eq_true rfl, ?_⟩
  show wz (d + 1) mt_X0_firstForNothing.2.2.2.2.1 Q mt_X0_firstForNothing.2.2.2.2.1 [some (.inr (.inr (some (w 125)))), some (.inl fr), none] [] G M _ _
  refine w_ic ?_
  refine w_isn ?_
  exact r_ff ga gb hK hr t1 t3 hC f0 f3 h (cs_t H) 0 _ _ (by omega) (by decide) (fun j hj => absurd hj (by omega))
theorem r_sf {G : mj_G} {M0 : mj_M} {w : Nat → Nat} {H : Nat → Int} {Q : mj_P} {d : Nat} (ga : cp_GA G w) (gb : cp_BA M0 w) (hK : cc_K H M0 w) (hr : rv_r4 H 0) (t1 : 1 ≤ H 0) (t3 : H 0 ≤ 3) {LA PA : Nat → Int} {bp mi at_ : Int} : ∀ (n : Nat) (i : Int) (pl : Nat) (L : Nat → Int) (BE : Nat → Int) (M : mj_M) (cb sb : Nat), i + n = 12 → 0 ≤ i → pl ≤ cs_t H → cs_met H L → cc_C w M0 LA PA BE bp M → (∀ BE2 M2 W, cc_C w M0 LA PA BE2 bp M2 → (∀ j : Nat, (j : Int) < i → BE2 j = BE j) → cs_S H n i.toNat pl L = some (0, W) → (∀ j : Nat, i ≤ (j : Int) → j < 12 → cs_pc H (BE2 j) = W j) → Q none G M2) → wz (d + 2) mt_X0_stayFrom.2.2.2.2.1 Q (mt_X0_stayFrom.2.2.2.2.1.drop 4) [some (.inr (.inr (some (w 125)))), some (.inl mi), some (.inl at_), some (.inl (pl : Int)), some (.inl i)] [] G M cb sb := by
  have et := cs_te hr
  have b1 := cs_r1 hr
  have ho := cs_oke hr
  intro n
  induction n with
  | zero =>
    intro i pl L BE M cb sb e i0 hp hm hC h
    refine w_il rfl ?_
    refine w_bp ?_
    refine w_cmge (fun c1 => ?_) (fun c1 => ?_)
    · skip
      exact w_ret (h BE M (fun _ => 0) hC (fun _ _ => rfl) (if_pos hm) (fun j h1 h2 => by omega))
    · exfalso; omega
  | succ n ih =>
    intro i pl L BE M cb sb e i0 hp hm hC h
    refine w_il rfl ?_
    refine w_bp ?_
    refine w_cmge (fun c1 => ?_) (fun c1 => ?_)
    · exfalso; omega
    · skip
      refine w_aln rfl ?_
      refine w_iln rfl ?_
      refine w_cv (st := []) rfl ga.g125 rfl (Nat.le_of_ble_eq_true rfl) (fun kk h => h) (r_X0_firstForNothing (d := d) ga gb hK hr t1 t3 hC (fr := (pl : Int)) (by omega) (by omega) (fun p q1 q2 q3 => ?_))
      refine w_isn ?_
      show wz _ _ _ _ [some (.inr (.inr (some (w 125)))), some (.inl mi), some (.inl at_), some (.inl (p : Int)), some (.inl i)] _ _ _ _ _
      refine w_aln rfl ?_
      refine w_gr ga.g125 rfl (by decide) rfl (hC.r (gb.r125_17)) ?_
      refine w_il rfl ?_
      refine w_iln rfl ?_
      refine w_iast ga.g145 rfl (by decide) (by show (0 : Int) ≤ i; omega) (by show i < ((12 : Nat) : Int); omega) ?_
      have hC2 := hC.h145 (j := i.toNat) (v := (p : Int)) ga
      refine w_ii rfl ⟨by show (-2147483648 : Int) ≤ i + 1; omega, by show i + 1 < (2147483648 : Int); omega⟩ ?_
      show wz _ _ _ _ [some (.inr (.inr (some (w 125)))), some (.inl mi), some (.inl at_), some (.inl (p : Int)), some (.inl (i + 1))] _ _ _ _ _
      refine w_goto ?_
      have hm2 : cs_met H (cs_lk H L p i.toNat) := fun k hk => Int.le_trans (cs_lk_le L p i.toNat k) (hm k hk)
      have es := cs_met_step ho (r := n) (m := i.toNat) (a := pl) hm (show p < cs_t H + 1 by omega) q2 q3
      refine ih (i + 1) p (cs_lk H L p i.toNat) _ _ _ _ (by omega) (by omega) q1 hm2 hC2 (fun BE2 M2 W g1 g2 g3 g4 => ?_)
      rw [show (i + 1).toNat = i.toNat + 1 by omega] at g3
      rw [g3] at es
      refine h BE2 M2 (fun j => if j = i.toNat then cs_code H p else W j) g1 (fun j hj => (g2 j (by omega)).trans (rv_up_n (by omega))) es (fun j h1 h2 => ?_)
      by_cases ej : j = i.toNat
      · rw [if_pos ej, g2 j (by omega), ej, rv_up_s]; exact cs_pc_n hr p
      · rw [if_neg ej]; exact g4 j (by omega) h2
theorem r_X0_stayFrom {G : mj_G} {M0 : mj_M} {w : Nat → Nat} {H : Nat → Int} {Q : mj_P} {d : Nat} (ga : cp_GA G w) (gb : cp_BA M0 w) (hK : cc_K H M0 w) (hr : rv_r4 H 0) (t1 : 1 ≤ H 0) (t3 : H 0 ≤ 3) {M : mj_M} {LA PA BE : Nat → Int} {bp : Int} (hC : cc_C w M0 LA PA BE bp M) {mi at_ : Int} (m0 : 0 ≤ mi) (m12 : mi ≤ 12) (a0 : 0 ≤ at_) (a3 : at_ ≤ H 0) (hm : cs_met H LA) (h : ∀ BE2 M2 W, cc_C w M0 LA PA BE2 bp M2 → (∀ j : Nat, (j : Int) < mi → BE2 j = BE j) → cs_S H (12 - mi).toNat mi.toNat at_.toNat LA = some (0, W) → (∀ j : Nat, mi ≤ (j : Int) → j < 12 → cs_pc H (BE2 j) = W j) → Q none G M2) : mj_R mj_tab (d + 3) 14 [.inr (.inr (some (w 125))), .inl mi, .inl at_] G M Q := by
  have et := cs_te hr
  obtain ⟨a, rfl⟩ : ∃ a : Nat, at_ = (a : Int) := ⟨at_.toNat, by omega⟩
  refine ⟨Nat.le_of_ble_eq_true rfl, ?_⟩
  show wz (d + 2) mt_X0_stayFrom.2.2.2.2.1 Q mt_X0_stayFrom.2.2.2.2.1 [some (.inr (.inr (some (w 125)))), some (.inl mi), some (.inl (a : Int)), none, none] [] G M _ _
  refine w_iln rfl ?_
  refine w_isn ?_
  refine w_iln rfl ?_
  refine w_is ?_
  exact r_sf ga gb hK hr t1 t3 (12 - mi).toNat mi a LA BE M _ _ (by omega) m0 (by omega) hm hC h
theorem r_mn {G : mj_G} {M0 : mj_M} {w : Nat → Nat} {H : Nat → Int} {Q : mj_P} {d : Nat} (ga : cp_GA G w) (gb : cp_BA M0 w) (hK : cc_K H M0 w) (hr : rv_r4 H 0) (t1 : 1 ≤ H 0) (t3 : H 0 ≤ 3) {M : mj_M} {LA PA BE : Nat → Int} {bp : Int} (hC : cc_C w M0 LA PA BE bp M) {i : Int} (i0 : 0 ≤ i) (i9 : i < ((cs_t H ^ 4 : Nat) : Int)) (h1 : cw_m H LA 4 8 i.toNat → Q (some (.inl 1)) G M) (h0 : ¬ cw_m H LA 4 8 i.toNat → Q (some (.inl 0)) G M) : ∀ (n : Nat) (k : Int) (cb sb : Nat), k + n = H 0 → 0 ≤ k → (∀ j : Nat, (j : Int) < k → LA j ≤ cw_g H j 4 8 i.toNat) → wz d mt_X0_meetsNeeds.2.2.2.2.1 Q (mt_X0_meetsNeeds.2.2.2.2.1.drop 2) [some (.inr (.inr (some (w 125)))), some (.inl i), some (.inl k)] [] G M cb sb := by
  have et := cs_te hr
  have b1 := cs_r1 hr
  have pw := (cw_pow (H := H) (by omega) (by omega)).2.2.2
  intro n
  induction n with
  | zero =>
    intro k cb sb e k0 hk
    refine w_iln rfl ?_
    refine w_aln rfl ?_
    refine w_gi ga.g125 rfl (by decide) rfl ((hC.2.2.1 5 (by decide)).trans hK.1) ?_
    refine w_cmge (fun c1 => ?_) (fun c1 => ?_)
    · skip
      refine w_ic ?_
      exact w_iret (fun _ => Or.inr rfl) (h1 (fun j hj => hk j (by omega)))
    · exfalso; omega
  | succ n ih =>
    intro k cb sb e k0 hk
    refine w_iln rfl ?_
    refine w_aln rfl ?_
    refine w_gi ga.g125 rfl (by decide) rfl ((hC.2.2.1 5 (by decide)).trans hK.1) ?_
    refine w_cmge (fun c1 => ?_) (fun c1 => ?_)
    · exfalso; omega
    · skip
      refine w_aln rfl ?_
      refine w_gr ga.g125 rfl (by decide) rfl (hC.r (gb.r125_12)) ?_
      refine w_iln rfl ?_
      refine w_aald ga.g138 rfl (by show (0 : Int) ≤ k; omega) (by show k < ((3 : Nat) : Int); omega) (hC.r (gb.w139 (by show k.toNat < 3; omega))) ?_
      refine w_iln rfl ?_
      refine w_iald (v := (cw_g H k.toNat 4 8 i.toNat)) (ga.w139 (by show k.toNat < 3; omega)) rfl (by show (0 : Int) ≤ i; omega) (by show i < ((81 : Nat) : Int); omega) ((hC.o (ga.n139 (by omega))).trans (hK.tg (by omega) (by omega))) ?_
      refine w_aln rfl ?_
      refine w_gr ga.g125 rfl (by decide) rfl (hC.r (gb.r125_8)) ?_
      refine w_iln rfl ?_
      refine w_iald (v := (LA k.toNat)) ga.g128 rfl (by show (0 : Int) ≤ k; omega) (by show k < ((3 : Nat) : Int); omega) (hC.2.2.2.2.1 _ (by show k.toNat < 3; omega)) ?_
      refine w_cmge (fun c2 => ?_) (fun c2 => ?_)
      · skip
        refine w_ii rfl ⟨by show (-2147483648 : Int) ≤ k + 1; omega, by show k + 1 < (2147483648 : Int); omega⟩ ?_
        show wz _ _ _ _ [some (.inr (.inr (some (w 125)))), some (.inl i), some (.inl (k + 1))] _ _ _ _ _
        refine w_goto ?_
        exact ih (k + 1) _ _ (by omega) (by omega) (fun j hj => by
                  by_cases ej : (j : Int) = k
                  · rw [show j = k.toNat by omega]; omega
                  · exact hk j (by omega))
      · skip
        refine w_ic ?_
        exact w_iret (fun _ => Or.inl rfl) (h0 (fun z => by have z1 := z k.toNat (by omega); omega))
theorem r_X0_meetsNeeds {G : mj_G} {M0 : mj_M} {w : Nat → Nat} {H : Nat → Int} {Q : mj_P} {d : Nat} (ga : cp_GA G w) (gb : cp_BA M0 w) (hK : cc_K H M0 w) (hr : rv_r4 H 0) (t1 : 1 ≤ H 0) (t3 : H 0 ≤ 3) {M : mj_M} {LA PA BE : Nat → Int} {bp : Int} (hC : cc_C w M0 LA PA BE bp M) {i : Int} (i0 : 0 ≤ i) (i9 : i < ((cs_t H ^ 4 : Nat) : Int)) (h1 : cw_m H LA 4 8 i.toNat → Q (some (.inl 1)) G M) (h0 : ¬ cw_m H LA 4 8 i.toNat → Q (some (.inl 0)) G M) : mj_R mj_tab (d + 1) 9 [.inr (.inr (some (w 125))), .inl i] G M Q := by
  have et := cs_te hr
  refine ⟨Nat.le_of_ble_eq_true rfl, ?_⟩
  show wz d mt_X0_meetsNeeds.2.2.2.2.1 Q mt_X0_meetsNeeds.2.2.2.2.1 [some (.inr (.inr (some (w 125)))), some (.inl i), none] [] G M _ _
  refine w_ic ?_
  refine w_isn ?_
  exact r_mn ga gb hK hr t1 t3 hC i0 i9 h1 h0 (cs_t H) 0 _ _ (by omega) (by decide) (fun j hj => absurd hj (by omega))
theorem cs_idiv {x t z : Int} (h0 : 0 ≤ x) (ht : 0 < t) (hx : mj_in x) (hy : mj_in t) (e : z = (Int32.ofInt x / Int32.ofInt t).toInt) : z = ((x.toNat / t.toNat : Nat) : Int) := by
  have h1 := ab_quo hx hy (by omega : 1 ≤ t)
  rw [e, h1, Int.tdiv_eq_ediv_of_nonneg h0]
  obtain ⟨x, rfl⟩ : ∃ n : Nat, x = (n : Int) := ⟨x.toNat, by omega⟩
  obtain ⟨t, rfl⟩ : ∃ n : Nat, t = (n : Int) := ⟨t.toNat, by omega⟩
  rfl
theorem cs_irem {x t z : Int} (h0 : 0 ≤ x) (ht : 0 < t) (hx : mj_in x) (hy : mj_in t) (e : z = (Int32.ofInt x - Int32.ofInt x / Int32.ofInt t * Int32.ofInt t).toInt) : z = ((x.toNat % t.toNat : Nat) : Int) := by
  have h1 := cs_idiv h0 ht hx hy rfl
  have h2 : Int32.ofInt x / Int32.ofInt t = Int32.ofInt ((x.toNat / t.toNat : Nat) : Int) := by rw [← h1, Int32.ofInt_toInt]
  have h3 := Nat.div_add_mod x.toNat t.toNat
  have h4 : ((x.toNat / t.toNat : Nat) : Int) * t = ((t.toNat * (x.toNat / t.toNat) : Nat) : Int) := by
    rw [Nat.mul_comm, Int.natCast_mul, show ((t.toNat : Nat) : Int) = t by omega]
  have h5 : x - ((x.toNat / t.toNat : Nat) : Int) * t = ((x.toNat % t.toNat : Nat) : Int) := by rw [h4]; omega
  have h6 : x.toNat % t.toNat ≤ x.toNat := Nat.mod_le _ _
  have h7 := hx.2
  rw [e, h2, ← Int32.ofInt_mul, ← Int32.ofInt_sub, h5]
  exact mj_ti ⟨by omega, by omega⟩
theorem r_kt {G : mj_G} {M0 : mj_M} {w : Nat → Nat} {H : Nat → Int} {Q : mj_P} {d : Nat} (ga : cp_GA G w) (gb : cp_BA M0 w) (hK : cc_K H M0 w) (hr : rv_r4 H 0) (t1 : 1 ≤ H 0) (t3 : H 0 ≤ 3) {LA PA : Nat → Int} {bp : Int} {i : Int} (i0 : 0 ≤ i) (i9 : i < ((cs_t H ^ 4 : Nat) : Int)) : ∀ (n : Nat) (mo lf : Int) (BE BE0 : Nat → Int) (M : mj_M) (cb sb : Nat), mo = 7 + n → n ≤ 4 → lf = ((i.toNat / cs_t H ^ (4 - n) : Nat) : Int) → cc_C w M0 LA PA BE bp M → (∀ j : Nat, (j : Int) < 8 → BE j = BE0 j) → (∀ j : Nat, mo < (j : Int) → j < 12 → cs_pc H (BE j) = cw_p H 4 8 i.toNat j ∧ 0 ≤ BE j ∧ BE j < H 0) → (∀ BE2 M2, cc_C w M0 LA PA BE2 bp M2 → (∀ j : Nat, (j : Int) < 8 → BE2 j = BE0 j) → (∀ j : Nat, 8 ≤ j → j < 12 → cs_pc H (BE2 j) = cw_p H 4 8 i.toNat j ∧ 0 ≤ BE2 j ∧ BE2 j < H 0) → Q none G M2) → wz d mt_X0_keepTail.2.2.2.2.1 Q (mt_X0_keepTail.2.2.2.2.1.drop 4) [some (.inr (.inr (some (w 125)))), some (.inl i), some (.inl lf), some (.inl mo)] [] G M cb sb := by
  have et := cs_te hr
  have b1 := cs_r1 hr
  have pw := (cw_pow (H := H) (by omega) (by omega)).2.2.2
  intro n
  induction n with
  | zero =>
    intro mo lf BE BE0 M cb sb e en el hC h1 h2 h
    refine w_iln rfl ?_
    refine w_bp ?_
    refine w_cmlt (fun c1 => ?_) (fun c1 => ?_)
    · skip
      exact w_ret (h BE M hC h1 (fun j h3 h4 => h2 j (by omega) h4))
    · exfalso; omega
  | succ n ih =>
    intro mo lf BE BE0 M cb sb e en el hC h1 h2 h
    have l9 : i.toNat / cs_t H ^ (4 - (n + 1)) ≤ i.toNat := Nat.div_le_self _ _
    have ed := fun z => cw_p_d (H := H) 3 8 i.toNat n z (show i.toNat < cs_t H ^ 4 by omega)
    have e3 : 3 - n = 4 - (n + 1) := by omega
    obtain ⟨lq, hlq⟩ : ∃ q, q = i.toNat / cs_t H ^ (4 - (n + 1)) := ⟨_, rfl⟩
    rw [← hlq] at el l9
    refine w_iln rfl ?_
    refine w_bp ?_
    refine w_cmlt (fun c1 => ?_) (fun c1 => ?_)
    · exfalso; omega
    · skip
      refine w_aln rfl ?_
      refine w_gi ga.g125 rfl (by decide) rfl ((hC.2.2.1 5 (by decide)).trans hK.1) ?_
      refine w_ifle (fun c2 => ?_) (fun c2 => ?_)
      · exfalso; omega
      · skip
        refine w_aln rfl ?_
        refine w_gr ga.g125 rfl (by decide) rfl (hC.r (gb.r125_17)) ?_
        refine w_iln rfl ?_
        refine w_iln rfl ?_
        refine w_aln rfl ?_
        refine w_gi ga.g125 rfl (by decide) rfl ((hC.2.2.1 5 (by decide)).trans hK.1) ?_
        refine w_rem (by omega) ?_
        intro z3 hz3 ez3
        refine w_iast ga.g145 rfl (by decide) (by show (0 : Int) ≤ mo; omega) (by show mo < ((12 : Nat) : Int); omega) ?_
        have qz3 := cs_irem (by omega) (by omega) ⟨by omega, by omega⟩ ⟨by omega, by omega⟩ ez3
        have hC4 := hC.h145 (j := mo.toNat) (v := z3) ga
        refine w_iln rfl ?_
        refine w_aln rfl ?_
        refine w_gi ga.g125 rfl (by decide) rfl ((hC4.2.2.1 5 (by decide)).trans hK.1) ?_
        refine w_div (by omega) ?_
        intro z5 hz5 ez5
        refine w_isn ?_
        show wz _ _ _ _ [some (.inr (.inr (some (w 125)))), some (.inl i), some (.inl z5), some (.inl mo)] _ _ _ _ _
        refine w_ii rfl ⟨by show (-2147483648 : Int) ≤ mo + (-1); omega, by show mo + (-1) < (2147483648 : Int); omega⟩ ?_
        show wz _ _ _ _ [some (.inr (.inr (some (w 125)))), some (.inl i), some (.inl z5), some (.inl (mo + (-1)))] _ _ _ _ _
        refine w_goto ?_
        have qd := cs_idiv (by omega) (by omega) ⟨by omega, by omega⟩ ⟨by omega, by omega⟩ ez5
        have et2 : (H 0).toNat = cs_t H := rfl
        rw [et2, show lf.toNat = lq by omega] at qz3 qd
        have hz : z3.toNat < cs_t H := by rw [qz3]; exact Nat.mod_lt _ (by omega)
        refine ih _ _ _ BE0 _ _ _ (by omega) (by omega) ?_ hC4 (fun j hj => (rv_up_n (by omega)).trans (h1 j hj)) (fun j h3 h4 => ?_) h
        · rw [qd, hlq, Nat.div_div_eq_div_mul, ← Nat.pow_succ, show (4 - (n + 1)).succ = 4 - n by omega]
        by_cases ej : (j : Int) = mo
        · rw [show j = mo.toNat by omega, rv_up_s]
          refine ⟨?_, by omega, by omega⟩
          rw [show mo.toNat = 8 + n by omega, ed (by omega), qz3, cs_pc_n hr, hlq, e3]
        · rw [rv_up_n (by omega)]; exact h2 j (by omega) h4
theorem r_X0_keepTail {G : mj_G} {M0 : mj_M} {w : Nat → Nat} {H : Nat → Int} {Q : mj_P} {d : Nat} (ga : cp_GA G w) (gb : cp_BA M0 w) (hK : cc_K H M0 w) (hr : rv_r4 H 0) (t1 : 1 ≤ H 0) (t3 : H 0 ≤ 3) {M : mj_M} {LA PA BE : Nat → Int} {bp : Int} (hC : cc_C w M0 LA PA BE bp M) {i : Int} (i0 : 0 ≤ i) (i9 : i < ((cs_t H ^ 4 : Nat) : Int)) (h : ∀ BE2 M2, cc_C w M0 LA PA BE2 bp M2 → (∀ j : Nat, (j : Int) < 8 → BE2 j = BE j) → (∀ j : Nat, 8 ≤ j → j < 12 → cs_pc H (BE2 j) = cw_p H 4 8 i.toNat j ∧ 0 ≤ BE2 j ∧ BE2 j < H 0) → Q none G M2) : mj_R mj_tab (d + 1) 5 [.inr (.inr (some (w 125))), .inl i] G M Q := by
  refine ⟨Nat.le_of_ble_eq_true rfl, ?_⟩
  show wz d mt_X0_keepTail.2.2.2.2.1 Q mt_X0_keepTail.2.2.2.2.1 [some (.inr (.inr (some (w 125)))), some (.inl i), none, none] [] G M _ _
  refine w_iln rfl ?_
  refine w_isn ?_
  refine w_bp ?_
  refine w_isn ?_
  exact r_kt ga gb hK hr t1 t3 i0 i9 4 11 i BE BE M _ _ rfl (by decide) (by rw [show 4 - 4 = 0 from rfl, Nat.pow_zero, Nat.div_one]; omega) hC (fun _ _ => rfl) (fun j h3 h4 => by omega) h
end
section
/-! ===== the cheapest letting: the class, month by month (laid by a program) ===== -/
theorem cs_cut_k {b : cs_R} {k lb : Int} {P : Nat → Int} {m : Nat} {a : cs_R} (h0 : ∀ c, cs_le a c → lb ≤ c) (hb : cs_le b (k + lb)) : cs_min b (cs_pre k P m a) = b := by
  obtain ⟨x, e, hx⟩ := hb
  cases a with
  | none => exact cs_min_none b
  | some y =>
    subst e
    show (if k + y.1 < x.1 then _ else some x) = some x
    have : lb ≤ y.1 := h0 y.1 ⟨y, rfl, Int.le_refl _⟩
    exact if_neg (by omega)
theorem cw_c_9 {H : Nat → Int} (h : rv_r4 H 0) (h3 : H 0 ≤ 3) : ∀ (r i : Nat), i < cs_t H ^ (r + 1) → 0 ≤ cw_c H (r + 1) i ∧ cw_c H (r + 1) i ≤ 1296 * r
  | 0, _, _ => ⟨Int.le_refl _, Int.le_refl _⟩
  | r + 1, i, hi => by
    have hp : 0 < cs_t H ^ (r + 1) := Nat.pos_of_ne_zero (fun z => by rw [Nat.pow_succ, z, Nat.zero_mul] at hi; exact absurd hi (Nat.not_lt_zero _))
    have hm := Nat.mod_lt i hp
    have h1 := cw_c_9 h h3 r (i % cs_t H ^ (r + 1)) hm
    have d1 : i / cs_t H ^ (r + 1) < cs_t H := Nat.div_lt_of_lt_mul (by rw [← Nat.pow_succ]; exact hi)
    have d2 : i % cs_t H ^ (r + 1) / cs_t H ^ r < cs_t H := Nat.div_lt_of_lt_mul (by rw [← Nat.pow_succ]; exact hm)
    have h2 := cs_cost_9 h h3 (a := i / cs_t H ^ (r + 1)) (b := i % cs_t H ^ (r + 1) / cs_t H ^ r) (by omega) (by omega)
    show 0 ≤ cw_c H (r + 1) (i % cs_t H ^ (r + 1)) + cs_cost H (i / cs_t H ^ (r + 1)) (i % cs_t H ^ (r + 1) / cs_t H ^ r) ∧ cw_c H (r + 1) (i % cs_t H ^ (r + 1)) + cs_cost H (i / cs_t H ^ (r + 1)) (i % cs_t H ^ (r + 1) / cs_t H ^ r) ≤ _
    omega
/-- a plan in places, as a plan in numbers -/
abbrev cs_pl (H BE : Nat → Int) : Nat → Int := fun j => cs_pc H (BE j)
theorem cs_N.so {far : Int} {P0 : Nat → Int} {b : cs_R} {best k : Int} {PL PL2 : Nat → Int} (h : cs_N far P0 b best PL) (x : Int × (Nat → Int)) (e : x.1 = k) (hk : k < best) (hf : 0 ≤ far) (k0 : 0 ≤ k) (hp : ∀ j, j < 12 → PL2 j = x.2 j) : cs_N far P0 (cs_min b (some x)) k PL2 := by
  rw [h.tk x e hk]
  have := h.b hf
  exact ⟨e, k0, by omega, hp⟩
theorem r_tt {G : mj_G} {M0 : mj_M} {w : Nat → Nat} {H : Nat → Int} {Q : mj_P} {d : Nat} (ga : cp_GA G w) (gb : cp_BA M0 w) (hK : cc_K H M0 w) (hr : rv_r4 H 0) (t1 : 1 ≤ H 0) (t3 : H 0 ≤ 3) {LA PA P : Nat → Int} {P0 : Nat → Int} {b : cs_R} {at_ pd : Int} (a0 : 0 ≤ at_) (a3 : at_ ≤ H 0) (p0 : 0 ≤ pd) (p9 : pd ≤ 20000) (hP : ∀ j, j < 8 → cs_pc H (PA j) = P j) : ∀ (n : Nat) (i : Int) (bi : cs_R) (bp : Int) (BE : Nat → Int) (M : mj_M) (v4 : Option mj_V) (cb sb : Nat), i + n = ((cs_t H ^ 4 : Nat) : Int) → 0 ≤ i → cc_C w M0 LA PA BE bp M → cs_N 1000000 P0 bi bp (cs_pl H BE) → bi = cw_run (H := H) b pd P 3 8 at_.toNat LA i.toNat → (∀ b2 bp2 BE2 M2, cc_C w M0 LA PA BE2 bp2 M2 → cs_N 1000000 P0 b2 bp2 (cs_pl H BE2) → b2 = cw_run (H := H) b pd P 3 8 at_.toNat LA (cs_t H ^ 4) → Q none G M2) → wz (d + 2) mt_X0_tryTails.2.2.2.2.1 Q (mt_X0_tryTails.2.2.2.2.1.drop 2) [some (.inr (.inr (some (w 125)))), some (.inl at_), some (.inl pd), some (.inl i), v4] [] G M cb sb := by
  have et := cs_te hr
  have b1 := cs_r1 hr
  have pw := (cw_pow (H := H) (by omega) (by omega)).2.2.2
  intro n
  induction n with
  | zero =>
    intro i bi bp BE M v4 cb sb e i0 hC hN eb h
    refine w_iln rfl ?_
    refine w_aln rfl ?_
    refine w_gi ga.g125 rfl (by decide) rfl ((hC.2.2.1 15 (by decide)).trans hK.2.2.1) ?_
    refine w_cmge (fun c1 => ?_) (fun c1 => ?_)
    · skip
      exact w_ret (h bi bp BE M hC hN (by rw [eb, show i.toNat = cs_t H ^ 4 by omega]))
    · exfalso; omega
  | succ n ih =>
    intro i bi bp BE M v4 cb sb e i0 hC hN eb h
    have ci : 0 ≤ cw_c H 4 i.toNat ∧ cw_c H 4 i.toNat ≤ 3888 := by
      have q := cw_c_9 hr t3 3 i.toNat (show i.toNat < cs_t H ^ 4 by omega)
      exact ⟨q.1, Int.le_trans q.2 (by decide)⟩
    have bb := hN.b (by decide)
    have hti9 : i.toNat / cs_t H ^ 3 < cs_t H := Nat.div_lt_of_lt_mul (by rw [← Nat.pow_succ]; show i.toNat < cs_t H ^ 4; omega)
    obtain ⟨ti, hti⟩ : ∃ n : Nat, ((i.toNat / cs_t H ^ 3 : Nat) : Int) = (n : Int) := ⟨_, rfl⟩
    have htn : i.toNat / cs_t H ^ 3 = ti := Int.ofNat.inj hti
    have cst := cs_cost_9 hr t3 (a := at_.toNat) (b := ti) (by omega) (by omega)
    have e1 : (i + 1).toNat = i.toNat + 1 := by omega
    have hlo : ∀ c, cs_le (cw_R H 3 8 at_.toNat LA i.toNat) c → cw_c H 4 i.toNat + cs_cost H at_.toNat ti ≤ c := fun c q => by
      obtain ⟨x, q1, q2⟩ := q
      unfold cw_R at q1
      by_cases z : cw_m H LA (3 + 1) 8 i.toNat
      · rw [if_pos z] at q1
        have q3 := congrArg Prod.fst (Option.some.inj q1)
        rw [← htn]
        have q4 : cw_c H 4 i.toNat + cs_cost H at_.toNat (i.toNat / cs_t H ^ 3) = x.1 := q3
        omega
      · rw [if_neg z] at q1; cases q1
    refine w_iln rfl ?_
    refine w_aln rfl ?_
    refine w_gi ga.g125 rfl (by decide) rfl ((hC.2.2.1 15 (by decide)).trans hK.2.2.1) ?_
    refine w_cmge (fun c1 => ?_) (fun c1 => ?_)
    · exfalso; omega
    · skip
      refine w_iln rfl ?_
      refine w_bp ?_
      refine w_cmge (fun c2 => ?_) (fun c2 => ?_)
      · exfalso; omega
      · skip
        refine w_iln rfl ?_
        refine w_aln rfl ?_
        refine w_gr ga.g125 rfl (by decide) rfl (hC.r (gb.r125_13)) ?_
        refine w_iln rfl ?_
        refine w_iald (v := (cw_c H 4 i.toNat)) ga.g142 rfl (by show (0 : Int) ≤ i; omega) (by show i < ((81 : Nat) : Int); omega) ((hC.o ga.n142).trans (hK.tc (by omega))) ?_
        refine w_add ⟨by show (-2147483648 : Int) ≤ pd + (cw_c H 4 i.toNat); omega, by show pd + (cw_c H 4 i.toNat) < (2147483648 : Int); omega⟩ ?_
        refine w_is ?_
        show wz _ _ _ _ [some (.inr (.inr (some (w 125)))), some (.inl at_), some (.inl pd), some (.inl i), some (.inl (pd + (cw_c H 4 i.toNat)))] _ _ _ _ _
        refine w_il rfl ?_
        refine w_aln rfl ?_
        refine w_gi ga.g125 rfl (by decide) rfl (hC.2.2.2.1) ?_
        refine w_cmge (fun c3 => ?_) (fun c3 => ?_)
        · skip
          refine w_ii rfl ⟨by show (-2147483648 : Int) ≤ i + 1; omega, by show i + 1 < (2147483648 : Int); omega⟩ ?_
          show wz _ _ _ _ [some (.inr (.inr (some (w 125)))), some (.inl at_), some (.inl pd), some (.inl (i + 1)), some (.inl (pd + (cw_c H 4 i.toNat)))] _ _ _ _ _
          refine w_goto ?_
          refine ih (i + 1) bi bp BE M _ _ _ (by omega) (by omega) hC hN ?_ h
          rw [e1, cw_run_s, ← eb]
          exact (cs_cut_k (lb := cw_c H 4 i.toNat) (fun c q => by have := hlo c q; omega) (hN.le (by omega) (by omega))).symm
        · skip
          refine w_aln rfl ?_
          refine w_iln rfl ?_
          refine w_cv (st := []) rfl ga.g125 rfl (Nat.le_of_ble_eq_true rfl) (fun kk h => h) (r_X0_meetsNeeds (d := d + 1) ga gb hK hr t1 t3 hC (i := i) (by omega) (by omega) (fun hm => ?_) (fun hm => ?_))
          · skip
            refine w_ifeq (fun c4 => ?_) (fun c4 => ?_)
            · exfalso; omega
            · skip
              refine w_il rfl ?_
              refine w_aln rfl ?_
              refine w_iln rfl ?_
              refine w_aln rfl ?_
              refine w_gr ga.g125 rfl (by decide) rfl (hC.r (gb.r125_14)) ?_
              refine w_iln rfl ?_
              refine w_iald (v := (ti : Int)) ga.g143 rfl (by show (0 : Int) ≤ i; omega) (by show i < ((81 : Nat) : Int); omega) (((hC.o ga.n143).trans (hK.tt (by omega))).trans hti) ?_
              refine w_cv (st := [.inl (pd + (cw_c H 4 i.toNat))]) rfl ga.g125 rfl (Nat.le_of_ble_eq_true rfl) (fun kk h => h) (r_X0_costOf (d := d + 1) ga gb hK hr t1 t3 hC (fr := at_) (to := (ti : Int)) (by omega) (by omega) (by omega) (by omega) ?_)
              show wz _ _ _ _ _ (.inl (cs_cost H at_.toNat ti) :: _) _ _ _ _
              refine w_add ⟨by show (-2147483648 : Int) ≤ (pd + (cw_c H 4 i.toNat)) + (cs_cost H at_.toNat ti); omega, by show (pd + (cw_c H 4 i.toNat)) + (cs_cost H at_.toNat ti) < (2147483648 : Int); omega⟩ ?_
              refine w_is ?_
              show wz _ _ _ _ [some (.inr (.inr (some (w 125)))), some (.inl at_), some (.inl pd), some (.inl i), some (.inl ((pd + (cw_c H 4 i.toNat)) + (cs_cost H at_.toNat ti)))] _ _ _ _ _
              refine w_il rfl ?_
              refine w_aln rfl ?_
              refine w_gi ga.g125 rfl (by decide) rfl (hC.2.2.2.1) ?_
              refine w_cmge (fun c5 => ?_) (fun c5 => ?_)
              · skip
                refine w_ii rfl ⟨by show (-2147483648 : Int) ≤ i + 1; omega, by show i + 1 < (2147483648 : Int); omega⟩ ?_
                show wz _ _ _ _ [some (.inr (.inr (some (w 125)))), some (.inl at_), some (.inl pd), some (.inl (i + 1)), some (.inl ((pd + (cw_c H 4 i.toNat)) + (cs_cost H at_.toNat ti)))] _ _ _ _ _
                refine w_goto ?_
                refine ih (i + 1) bi bp BE M _ _ _ (by omega) (by omega) hC hN ?_ h
                rw [e1, cw_run_s, ← eb]
                exact (cs_cut_k (lb := cw_c H 4 i.toNat + cs_cost H at_.toNat ti) hlo (hN.le (by omega) (by omega))).symm
              · skip
                refine w_aln rfl ?_
                refine w_bp ?_
                refine w_il rfl ?_
                refine w_cv (st := []) rfl ga.g125 rfl (Nat.le_of_ble_eq_true rfl) (fun kk h => h) (r_X0_keepPath (d := d + 1) ga gb hK hr t1 t3 hC (mi := 8) (pd := (pd + (cw_c H 4 i.toNat)) + (cs_cost H at_.toNat ti)) (by decide) (by decide) (fun BE1 M1 hC1 k1 k2 => ?_))
                refine w_aln rfl ?_
                refine w_iln rfl ?_
                refine w_cv (st := []) rfl ga.g125 rfl (Nat.le_of_ble_eq_true rfl) (fun kk h => h) (r_X0_keepTail (d := d + 1) ga gb hK hr t1 t3 hC1 (i := i) (by omega) (by omega) (fun BE2 M2 hC2 k3 k4 => ?_))
                refine w_ii rfl ⟨by show (-2147483648 : Int) ≤ i + 1; omega, by show i + 1 < (2147483648 : Int); omega⟩ ?_
                show wz _ _ _ _ [some (.inr (.inr (some (w 125)))), some (.inl at_), some (.inl pd), some (.inl (i + 1)), some (.inl ((pd + (cw_c H 4 i.toNat)) + (cs_cost H at_.toNat ti)))] _ _ _ _ _
                refine w_goto ?_
                have hR : cw_R H 3 8 at_.toNat LA i.toNat = some (cw_c H 4 i.toNat + cs_cost H at_.toNat ti, cw_p H 4 8 i.toNat) := by
                  unfold cw_R
                  rw [if_pos (show cw_m H LA (3 + 1) 8 i.toNat from hm), htn]
                refine ih (i + 1) (cs_min bi (cs_pre pd P 8 (cw_R H 3 8 at_.toNat LA i.toNat))) _ BE2 M2 _ _ _ (by omega) (by omega) hC2 ?_ (by rw [e1, cw_run_s, ← eb]) h
                rw [hR]
                refine hN.so (pd + (cw_c H 4 i.toNat + cs_cost H at_.toNat ti), fun j => if j < 8 then P j else cw_p H 4 8 i.toNat j) (by show pd + (cw_c H 4 i.toNat + cs_cost H at_.toNat ti) = (pd + (cw_c H 4 i.toNat)) + (cs_cost H at_.toNat ti); omega) (by omega) (by decide) (by omega) (fun j hj => ?_)
                show cs_pc H (BE2 j) = if j < 8 then P j else cw_p H 4 8 i.toNat j
                by_cases ej : j < 8
                · rw [if_pos ej, k3 j (by omega), k1 j (by omega)]; exact hP j ej
                · rw [if_neg ej]; exact (k4 j (by omega) hj).1
          · skip
            refine w_ifeq (fun c6 => ?_) (fun c6 => ?_)
            · skip
              refine w_ii rfl ⟨by show (-2147483648 : Int) ≤ i + 1; omega, by show i + 1 < (2147483648 : Int); omega⟩ ?_
              show wz _ _ _ _ [some (.inr (.inr (some (w 125)))), some (.inl at_), some (.inl pd), some (.inl (i + 1)), some (.inl (pd + (cw_c H 4 i.toNat)))] _ _ _ _ _
              refine w_goto ?_
              refine ih (i + 1) bi bp BE M _ _ _ (by omega) (by omega) hC hN ?_ h
              rw [e1, cw_run_s, ← eb]
              have hR : cw_R H 3 8 at_.toNat LA i.toNat = none := by
                unfold cw_R
                exact if_neg hm
              exact (cs_cut_n hR).symm
            · exfalso; omega
theorem r_X0_tryTails {G : mj_G} {M0 : mj_M} {w : Nat → Nat} {H : Nat → Int} {Q : mj_P} {d : Nat} (ga : cp_GA G w) (gb : cp_BA M0 w) (hK : cc_K H M0 w) (hr : rv_r4 H 0) (t1 : 1 ≤ H 0) (t3 : H 0 ≤ 3) {LA PA P : Nat → Int} {P0 : Nat → Int} {b : cs_R} {at_ pd : Int} (a0 : 0 ≤ at_) (a3 : at_ ≤ H 0) (p0 : 0 ≤ pd) (p9 : pd ≤ 20000) (hP : ∀ j, j < 8 → cs_pc H (PA j) = P j) {BE : Nat → Int} {bp : Int} {M : mj_M} (hC : cc_C w M0 LA PA BE bp M) (hN : cs_N 1000000 P0 b bp (cs_pl H BE)) (h : ∀ b2 bp2 BE2 M2, cc_C w M0 LA PA BE2 bp2 M2 → cs_N 1000000 P0 b2 bp2 (cs_pl H BE2) → b2 = cs_min b (cs_pre pd P 8 (cs_T H 4 8 at_.toNat LA)) → Q none G M2) : mj_R mj_tab (d + 3) 16 [.inr (.inr (some (w 125))), .inl at_, .inl pd] G M Q := by
  refine ⟨Nat.le_of_ble_eq_true rfl, ?_⟩
  show wz (d + 2) mt_X0_tryTails.2.2.2.2.1 Q mt_X0_tryTails.2.2.2.2.1 [some (.inr (.inr (some (w 125)))), some (.inl at_), some (.inl pd), none, none] [] G M _ _
  refine w_ic ?_
  refine w_isn ?_
  refine r_tt ga gb hK hr t1 t3 a0 a3 p0 p9 hP (b := b) (P0 := P0) (cs_t H ^ 4) 0 b bp BE M none _ _ (by omega) (by decide) hC hN ?_ (fun b2 bp2 BE2 M2 g1 g2 g3 => h b2 bp2 BE2 M2 g1 g2 (g3.trans cw_run_e))
  exact cw_run_0.symm
theorem r_X0_tryMonth {G : mj_G} {M0 : mj_M} {w : Nat → Nat} {H : Nat → Int} {d : Nat} (ga : cp_GA G w) (gb : cp_BA M0 w) (hK : cc_K H M0 w) (hr : rv_r4 H 0) (t1 : 1 ≤ H 0) (t3 : H 0 ≤ 3) {P0 : Nat → Int} : ∀ (r : Nat) (mi at_ pd : Int) (P LA PA BE : Nat → Int) (b : cs_R) (bp : Int) (M : mj_M) (Q : mj_P), mi + r = 8 → 0 ≤ mi → 0 ≤ at_ → at_ ≤ H 0 → 0 ≤ pd → pd ≤ 1296 * mi → (∀ j : Nat, (j : Int) < mi → cs_pc H (PA j) = P j) → (∀ k : Nat, (k : Int) < H 0 → -(999 * mi) - 2000 ≤ LA k ∧ LA k ≤ 2000) → cc_C w M0 LA PA BE bp M → cs_N 1000000 P0 b bp (cs_pl H BE) → (∀ b2 bp2 PA2 BE2 M2, cc_C w M0 LA PA2 BE2 bp2 M2 → (∀ j : Nat, (j : Int) < mi → PA2 j = PA j) → cs_N 1000000 P0 b2 bp2 (cs_pl H BE2) → b2 = cs_min b (cs_pre pd P mi.toNat (cs_S H (r + 4) mi.toNat at_.toNat LA)) → Q none G M2) → mj_R mj_tab (d + r + 4) 15 [.inr (.inr (some (w 125))), .inl mi, .inl at_, .inl pd] G M Q := by
  have et := cs_te hr
  have b1 := cs_r1 hr
  have ho := cs_oke hr
  intro r
  induction r with
  | zero =>
    intro mi at_ pd P LA PA BE b bp M Q e m0 a0 a3 p0 p9 hP hl hC hN h
    obtain rfl : mi = 8 := by omega
    have bb := hN.b (by decide)
    have lb := cs_LB_9 hr t3 (b := cs_b LA) (a := at_.toNat) (by omega)
    have lbe := cs_LB_le ho (show cs_t H ≤ 3 by omega) (0 + 4) 8 at_.toNat LA
    refine ⟨Nat.le_of_ble_eq_true rfl, ?_⟩
    show wz (d + 3) mt_X0_tryMonth.2.2.2.2.1 Q mt_X0_tryMonth.2.2.2.2.1 [some (.inr (.inr (some (w 125)))), some (.inl 8), some (.inl at_), some (.inl pd), none] [] G M _ _
    refine w_iln rfl ?_
    refine w_aln rfl ?_
    refine w_iln rfl ?_
    refine w_cv (st := [.inl pd]) rfl ga.g125 rfl (Nat.le_of_ble_eq_true rfl) (fun kk h => h) (r_X0_leastToCome (d := d + 2) ga gb hK hr t1 t3 hC (at_ := at_) (by omega) (by omega) ?_)
    refine w_add ⟨by show (-2147483648 : Int) ≤ pd + (cs_LB H (cs_b LA) at_.toNat); omega, by show pd + (cs_LB H (cs_b LA) at_.toNat) < (2147483648 : Int); omega⟩ ?_
    refine w_aln rfl ?_
    refine w_gi ga.g125 rfl (by decide) rfl (hC.2.2.2.1) ?_
    refine w_cmlt (fun c1 => ?_) (fun c1 => ?_)
    · skip
      refine w_aln rfl ?_
      refine w_cv (st := []) rfl ga.g125 rfl (Nat.le_of_ble_eq_true rfl) (fun kk h => h) (r_X0_lacksAny (d := d + 2) ga gb hK hr t1 t3 hC (fun hlk => ?_) (fun hmet => ?_))
      · skip
        refine w_ifne (fun c2 => ?_) (fun c2 => ?_)
        · skip
          refine w_aln rfl ?_
          refine w_iln rfl ?_
          have hnm : ¬ cs_met H LA := fun q => by obtain ⟨k, k1, k2⟩ := hlk; have := q k k1; omega
          refine w_cv (st := []) rfl ga.g125 rfl (Nat.le_of_ble_eq_true rfl) (fun kk h => h) (r_X0_canBe (d := d + 2) ga gb hK hr t1 t3 hC (mi := 8) (by omega) (by omega) (fun k hk => by have := hl k hk; omega) ?_ (fun hno => ?_))
          · skip
            refine w_ifne (fun c3 => ?_) (fun c3 => ?_)
            · skip
              refine w_iln rfl ?_
              refine w_bp ?_
              refine w_cmlt (fun c4 => ?_) (fun c4 => ?_)
              · exfalso; omega
              · skip
                refine w_aln rfl ?_
                refine w_iln rfl ?_
                refine w_iln rfl ?_
                refine w_cv (st := []) rfl ga.g125 rfl (Nat.le_of_ble_eq_true rfl) (fun kk h => h) (r_X0_tryTails (d := d) ga gb hK hr t1 t3 (b := b) (P := P) (P0 := P0) (at_ := at_) (pd := pd) (by omega) (by omega) (by omega) (by omega) (fun j hj => hP j (by omega)) hC hN (fun b2 bp2 BE2 M2 hCt gt2 gt3 => ?_))
                have eST : cs_S H (0 + 4) 8 at_.toNat LA = cs_T H 4 8 at_.toNat LA := by
                  by_cases z : at_.toNat < cs_t H
                  · exact cs_S_T ho 4 8 _ LA z
                  · rw [show at_.toNat = cs_t H by omega]; exact cs_S_start ho hnm
                exact w_ret (h b2 bp2 PA BE2 M2 hCt (fun _ _ => rfl) gt2 (gt3.trans (by rw [← eST]; rfl)))
            · exfalso; omega
          · skip
            refine w_ifne (fun c5 => ?_) (fun c5 => ?_)
            · exfalso; omega
            · skip
              have hS : cs_S H (0 + 4) (8 : Int).toNat at_.toNat LA = none := by
                rcases hno with ⟨k, k1, k2⟩ | k1
                · exact cs_can_n k1 (by rw [show 12 - (8 : Int).toNat = 0 + 4 by omega] at k2; exact k2)
                · exact cs_can2_n (by rw [show 12 - (8 : Int).toNat = 0 + 4 by omega] at k1; exact k1)
              exact w_ret (h b bp PA BE M hC (fun _ _ => rfl) hN (cs_cut_n hS).symm)
        · exfalso; omega
      · skip
        refine w_ifne (fun c6 => ?_) (fun c6 => ?_)
        · exfalso; omega
        · skip
          refine w_aln rfl ?_
          refine w_iln rfl ?_
          refine w_iln rfl ?_
          refine w_cv (st := []) rfl ga.g125 rfl (Nat.le_of_ble_eq_true rfl) (fun kk h => h) (r_X0_keepPath (d := d + 2) ga gb hK hr t1 t3 hC (mi := 8) (pd := pd) (by omega) (by omega) (fun BE1 M1 hC1 k1 k2 => ?_))
          refine w_aln rfl ?_
          refine w_iln rfl ?_
          refine w_iln rfl ?_
          refine w_cv (st := []) rfl ga.g125 rfl (Nat.le_of_ble_eq_true rfl) (fun kk h => h) (r_X0_stayFrom (d := d) ga gb hK hr t1 t3 hC1 (mi := 8) (at_ := at_) (by omega) (by omega) (by omega) (by omega) hmet (fun BE2 M2 W k3 k4 k5 k6 => ?_))
          have k5' : cs_S H (0 + 4) (8 : Int).toNat at_.toNat LA = some (0, W) := by rw [← k5]; congr 1 <;> omega
          refine w_ret (h _ pd PA BE2 M2 k3 (fun _ _ => rfl) ?_ rfl)
          rw [k5']
          refine hN.so (pd + 0, fun j => if j < (8 : Int).toNat then P j else W j) (by show pd + 0 = pd; omega) (by omega) (by decide) (by omega) (fun j hj => ?_)
          show cs_pc H (BE2 j) = if j < (8 : Int).toNat then P j else W j
          by_cases ej : j < (8 : Int).toNat
          · rw [if_pos ej, k4 j (by omega), k1 j (by omega)]; exact hP j (by omega)
          · rw [if_neg ej]; exact k6 j (by omega) hj
    · skip
      exact w_ret (h b bp PA BE M hC (fun _ _ => rfl) hN (cs_cut_k (lb := (cs_LB H (cs_b LA) at_.toNat)) (fun c q => lbe c q) (hN.le (by omega) (by omega))).symm)
  | succ r ih =>
    intro mi at_ pd P LA PA BE b bp M Q e m0 a0 a3 p0 p9 hP hl hC hN h
    have bb := hN.b (by decide)
    have lb := cs_LB_9 hr t3 (b := cs_b LA) (a := at_.toNat) (by omega)
    have lbe := cs_LB_le ho (show cs_t H ≤ 3 by omega) (r + 1 + 4) mi.toNat at_.toNat LA
    rw [show d + (r + 1) + 4 = d + r + 4 + 1 by omega]
    refine ⟨Nat.le_of_ble_eq_true rfl, ?_⟩
    show wz (d + r + 4) mt_X0_tryMonth.2.2.2.2.1 Q mt_X0_tryMonth.2.2.2.2.1 [some (.inr (.inr (some (w 125)))), some (.inl mi), some (.inl at_), some (.inl pd), none] [] G M _ _
    refine w_iln rfl ?_
    refine w_aln rfl ?_
    refine w_iln rfl ?_
    refine w_cv (st := [.inl pd]) rfl ga.g125 rfl (Nat.le_of_ble_eq_true rfl) (fun kk h => h) (r_X0_leastToCome (d := d + r + 3) ga gb hK hr t1 t3 hC (at_ := at_) (by omega) (by omega) ?_)
    refine w_add ⟨by show (-2147483648 : Int) ≤ pd + (cs_LB H (cs_b LA) at_.toNat); omega, by show pd + (cs_LB H (cs_b LA) at_.toNat) < (2147483648 : Int); omega⟩ ?_
    refine w_aln rfl ?_
    refine w_gi ga.g125 rfl (by decide) rfl (hC.2.2.2.1) ?_
    refine w_cmlt (fun c1 => ?_) (fun c1 => ?_)
    · skip
      refine w_aln rfl ?_
      refine w_cv (st := []) rfl ga.g125 rfl (Nat.le_of_ble_eq_true rfl) (fun kk h => h) (r_X0_lacksAny (d := d + r + 3) ga gb hK hr t1 t3 hC (fun hlk => ?_) (fun hmet => ?_))
      · skip
        refine w_ifne (fun c2 => ?_) (fun c2 => ?_)
        · skip
          refine w_aln rfl ?_
          refine w_iln rfl ?_
          have hnm : ¬ cs_met H LA := fun q => by obtain ⟨k, k1, k2⟩ := hlk; have := q k k1; omega
          refine w_cv (st := []) rfl ga.g125 rfl (Nat.le_of_ble_eq_true rfl) (fun kk h => h) (r_X0_canBe (d := d + r + 3) ga gb hK hr t1 t3 hC (mi := mi) (by omega) (by omega) (fun k hk => by have := hl k hk; omega) ?_ (fun hno => ?_))
          · skip
            refine w_ifne (fun c3 => ?_) (fun c3 => ?_)
            · skip
              refine w_iln rfl ?_
              refine w_bp ?_
              refine w_cmlt (fun c4 => ?_) (fun c4 => ?_)
              · skip
                refine w_ic ?_
                refine w_is ?_
                show wz _ _ _ _ [some (.inr (.inr (some (w 125)))), some (.inl mi), some (.inl at_), some (.inl pd), some (.inl 0)] _ _ _ _ _
                have key : ∀ (n : Nat) (k : Int) (bk : cs_R) (bpk : Int) (PA2 BE2 : Nat → Int) (M2 : mj_M) (cb sb : Nat), k + n = H 0 → 0 ≤ k → cc_C w M0 LA PA2 BE2 bpk M2 → (∀ j : Nat, (j : Int) < mi → PA2 j = PA j) → cs_N 1000000 P0 bk bpk (cs_pl H BE2) → bk = cs_nodeT H b pd P (r + 4) mi.toNat at_.toNat LA k.toNat → wz (d + r + 4) mt_X0_tryMonth.2.2.2.2.1 Q (mt_X0_tryMonth.2.2.2.2.1.drop 36) [some (.inr (.inr (some (w 125)))), some (.inl mi), some (.inl at_), some (.inl pd), some (.inl k)] [] G M2 cb sb := by
                  intro n
                  induction n with
                  | zero =>
                    intro k bk bpk PA2 BE2 M2 cb sb en k0 hC2 hp2 hN2 ebk
                    refine w_il rfl ?_
                    refine w_aln rfl ?_
                    refine w_gi ga.g125 rfl (by decide) rfl ((hC2.2.2.1 5 (by decide)).trans hK.1) ?_
                    refine w_cmge (fun c1 => ?_) (fun c1 => ?_)
                    · skip
                      refine w_ret (h bk bpk PA2 BE2 M2 hC2 hp2 hN2 ?_)
                      rw [ebk, show k.toNat = cs_t H by omega, cs_nodeT_e]
                      have eST : cs_S H (r + 1 + 4) mi.toNat at_.toNat LA = cs_T H (r + 4 + 1) mi.toNat at_.toNat LA := by
                        rw [show r + 1 + 4 = r + 4 + 1 by omega]
                        by_cases z : at_.toNat < cs_t H
                        · exact cs_S_T ho _ _ _ LA z
                        · rw [show at_.toNat = cs_t H by omega]; exact cs_S_start ho hnm
                      rw [eST]
                    · exfalso; omega
                  | succ n ihn =>
                    intro k bk bpk PA2 BE2 M2 cb sb en k0 hC2 hp2 hN2 ebk
                    have bb2 := hN2.b (by decide)
                    have gk := cs_gain_9 hr (k := k.toNat) (m := mi.toNat) (by omega) (by omega)
                    have cst := cs_cost_9 hr t3 (a := at_.toNat) (b := k.toNat) (by omega) (by omega)
                    have hlk2 := hl k.toNat (by omega)
                    have em : (mi + 1).toNat = mi.toNat + 1 := by omega
                    have ek1 : (k + 1).toNat = k.toNat + 1 := by omega
                    refine w_il rfl ?_
                    refine w_aln rfl ?_
                    refine w_gi ga.g125 rfl (by decide) rfl ((hC2.2.2.1 5 (by decide)).trans hK.1) ?_
                    refine w_cmge (fun c1 => ?_) (fun c1 => ?_)
                    · exfalso; omega
                    · skip
                      refine w_aln rfl ?_
                      refine w_gr ga.g125 rfl (by decide) rfl (hC2.r (gb.r125_16)) ?_
                      refine w_iln rfl ?_
                      refine w_il rfl ?_
                      refine w_iast ga.g144 rfl (by decide) (by show (0 : Int) ≤ mi; omega) (by show mi < ((12 : Nat) : Int); omega) ?_
                      have hC2 := hC2.h144 (j := mi.toNat) (v := k) ga
                      refine w_aln rfl ?_
                      refine w_gr ga.g125 rfl (by decide) rfl (hC2.r (gb.r125_8)) ?_
                      refine w_il rfl ?_
                      refine w_dup2 ?_
                      refine w_iald (v := (LA k.toNat)) ga.g128 rfl (by show (0 : Int) ≤ k; omega) (by show k < ((3 : Nat) : Int); omega) (hC2.2.2.2.2.1 _ (by show k.toNat < 3; omega)) ?_
                      refine w_aln rfl ?_
                      refine w_gr ga.g125 rfl (by decide) rfl (hC2.r (gb.r125_9)) ?_
                      refine w_il rfl ?_
                      refine w_aald ga.g129 rfl (by show (0 : Int) ≤ k; omega) (by show k < ((3 : Nat) : Int); omega) (hC2.r (gb.w130 (by show k.toNat < 3; omega))) ?_
                      refine w_iln rfl ?_
                      refine w_iald (v := (cs_gain H k.toNat mi.toNat)) (ga.w130 (by show k.toNat < 3; omega)) rfl (by show (0 : Int) ≤ mi; omega) (by show mi < ((12 : Nat) : Int); omega) ((hC2.o (ga.n130 (by omega))).trans (hK.gn (by omega) (by omega))) ?_
                      refine w_sub ⟨by show (-2147483648 : Int) ≤ (LA k.toNat) - (cs_gain H k.toNat mi.toNat); omega, by show (LA k.toNat) - (cs_gain H k.toNat mi.toNat) < (2147483648 : Int); omega⟩ ?_
                      refine w_iast ga.g128 rfl (by decide) (by show (0 : Int) ≤ k; omega) (by show k < ((3 : Nat) : Int); omega) ?_
                      have hC3 := hC2.h128 (j := k.toNat) (v := (LA k.toNat) - (cs_gain H k.toNat mi.toNat)) ga
                      refine w_aln rfl ?_
                      refine w_iln rfl ?_
                      refine w_ic ?_
                      refine w_add ⟨by show (-2147483648 : Int) ≤ mi + 1; omega, by show mi + 1 < (2147483648 : Int); omega⟩ ?_
                      refine w_il rfl ?_
                      refine w_iln rfl ?_
                      refine w_aln rfl ?_
                      refine w_iln rfl ?_
                      refine w_il rfl ?_
                      refine w_cv (st := [.inl pd, .inl k, .inl (mi + 1), .inr (.inr (some (w 125)))]) rfl ga.g125 rfl (Nat.le_of_ble_eq_true rfl) (fun kk h => h) (r_X0_costOf (d := d + r + 3) ga gb hK hr t1 t3 hC3 (fr := at_) (to := k) (by omega) (by omega) (by omega) (by omega) ?_)
                      refine w_add ⟨by show (-2147483648 : Int) ≤ pd + (cs_cost H at_.toNat k.toNat); omega, by show pd + (cs_cost H at_.toNat k.toNat) < (2147483648 : Int); omega⟩ ?_
                      have hC3 := hC3.la (LA2 := cs_lk H LA k.toNat mi.toNat) (fun j hj => by
                        unfold cs_lk rv_up
                        by_cases ej : j = k.toNat
                        · rw [if_pos ej, if_pos ej, ej]
                        · rw [if_neg ej, if_neg ej])
                      refine w_cv (st := []) rfl ga.g125 rfl (Nat.le_of_ble_eq_true rfl) (fun kk h => h) (ih (mi + 1) k (pd + (cs_cost H at_.toNat k.toNat)) (fun j => if j = mi.toNat then cs_code H k.toNat else P j) (cs_lk H LA k.toNat mi.toNat) _ BE2 bk bpk _ _ (by omega) (by omega) (by omega) (by omega) (by omega) (by omega) (fun j hj => ?_) (fun j hj => ?_) hC3 hN2 (fun b3 bp3 PA3 BE3 M3 hC4 hp3 hN3 e3 => ?_))
                      · by_cases ej : (j : Int) = mi
                        · rw [show j = mi.toNat by omega, rv_up_s, if_pos rfl]; exact cs_pc_i hr k0
                        · rw [rv_up_n (by omega), if_neg (by omega), hp2 j (by omega)]; exact hP j (by omega)
                      · unfold cs_lk; have := hl j hj
                        split
                        · rename_i ej; subst ej; omega
                        · omega
                      have elk : cs_lk H LA k.toNat mi.toNat k.toNat = LA k.toNat - cs_gain H k.toNat mi.toNat := if_pos rfl
                      refine w_aln rfl ?_
                      refine w_gr ga.g125 rfl (by decide) rfl (hC4.r (gb.r125_8)) ?_
                      refine w_il rfl ?_
                      refine w_dup2 ?_
                      refine w_iald (v := ((cs_lk H LA k.toNat mi.toNat) k.toNat)) ga.g128 rfl (by show (0 : Int) ≤ k; omega) (by show k < ((3 : Nat) : Int); omega) (hC4.2.2.2.2.1 _ (by show k.toNat < 3; omega)) ?_
                      refine w_aln rfl ?_
                      refine w_gr ga.g125 rfl (by decide) rfl (hC4.r (gb.r125_9)) ?_
                      refine w_il rfl ?_
                      refine w_aald ga.g129 rfl (by show (0 : Int) ≤ k; omega) (by show k < ((3 : Nat) : Int); omega) (hC4.r (gb.w130 (by show k.toNat < 3; omega))) ?_
                      refine w_iln rfl ?_
                      refine w_iald (v := (cs_gain H k.toNat mi.toNat)) (ga.w130 (by show k.toNat < 3; omega)) rfl (by show (0 : Int) ≤ mi; omega) (by show mi < ((12 : Nat) : Int); omega) ((hC4.o (ga.n130 (by omega))).trans (hK.gn (by omega) (by omega))) ?_
                      refine w_add ⟨by show (-2147483648 : Int) ≤ ((cs_lk H LA k.toNat mi.toNat) k.toNat) + (cs_gain H k.toNat mi.toNat); omega, by show ((cs_lk H LA k.toNat mi.toNat) k.toNat) + (cs_gain H k.toNat mi.toNat) < (2147483648 : Int); omega⟩ ?_
                      refine w_iast ga.g128 rfl (by decide) (by show (0 : Int) ≤ k; omega) (by show k < ((3 : Nat) : Int); omega) ?_
                      have hC4 := hC4.h128 (j := k.toNat) (v := ((cs_lk H LA k.toNat mi.toNat) k.toNat) + (cs_gain H k.toNat mi.toNat)) ga
                      refine w_ii rfl ⟨by show (-2147483648 : Int) ≤ k + 1; omega, by show k + 1 < (2147483648 : Int); omega⟩ ?_
                      show wz _ _ _ _ [some (.inr (.inr (some (w 125)))), some (.inl mi), some (.inl at_), some (.inl pd), some (.inl (k + 1))] _ _ _ _ _
                      refine w_goto ?_
                      have hC6 := hC4.la (LA2 := LA) (fun j hj => by
                        unfold rv_up
                        by_cases ej : j = k.toNat
                        · rw [if_pos ej, ej, elk]; omega
                        · rw [if_neg ej]; exact if_neg ej)
                      refine ihn (k + 1) b3 bp3 PA3 BE3 _ _ _ (by omega) (by omega) hC6 (fun j hj => ?_) hN3 ?_
                      · exact (hp3 j (by omega)).trans ((rv_up_n (by omega)).trans (hp2 j hj))
                      · rw [e3, ek1, cs_nodeT_s, ← ebk, em, cs_S_T ho _ _ _ _ (show k.toNat < cs_t H by omega)]
                exact key (cs_t H) 0 b bp PA BE M _ _ (by omega) (by decide) hC (fun _ _ => rfl) hN (by rw [show (0 : Int).toNat = 0 from rfl, cs_nodeT_0])
              · exfalso; omega
            · exfalso; omega
          · skip
            refine w_ifne (fun c5 => ?_) (fun c5 => ?_)
            · exfalso; omega
            · skip
              have hS : cs_S H (r + 1 + 4) mi.toNat at_.toNat LA = none := by
                rcases hno with ⟨k, k1, k2⟩ | k1
                · exact cs_can_n k1 (by rw [show 12 - mi.toNat = r + 1 + 4 by omega] at k2; exact k2)
                · exact cs_can2_n (by rw [show 12 - mi.toNat = r + 1 + 4 by omega] at k1; exact k1)
              exact w_ret (h b bp PA BE M hC (fun _ _ => rfl) hN (cs_cut_n hS).symm)
        · exfalso; omega
      · skip
        refine w_ifne (fun c6 => ?_) (fun c6 => ?_)
        · exfalso; omega
        · skip
          refine w_aln rfl ?_
          refine w_iln rfl ?_
          refine w_iln rfl ?_
          refine w_cv (st := []) rfl ga.g125 rfl (Nat.le_of_ble_eq_true rfl) (fun kk h => h) (r_X0_keepPath (d := d + r + 3) ga gb hK hr t1 t3 hC (mi := mi) (pd := pd) (by omega) (by omega) (fun BE1 M1 hC1 k1 k2 => ?_))
          refine w_aln rfl ?_
          refine w_iln rfl ?_
          refine w_iln rfl ?_
          refine w_cv (st := []) rfl ga.g125 rfl (Nat.le_of_ble_eq_true rfl) (fun kk h => h) (r_X0_stayFrom (d := d + r + 1) ga gb hK hr t1 t3 hC1 (mi := mi) (at_ := at_) (by omega) (by omega) (by omega) (by omega) hmet (fun BE2 M2 W k3 k4 k5 k6 => ?_))
          have k5' : cs_S H (r + 1 + 4) mi.toNat at_.toNat LA = some (0, W) := by rw [← k5]; congr 1 <;> omega
          refine w_ret (h _ pd PA BE2 M2 k3 (fun _ _ => rfl) ?_ rfl)
          rw [k5']
          refine hN.so (pd + 0, fun j => if j < mi.toNat then P j else W j) (by show pd + 0 = pd; omega) (by omega) (by decide) (by omega) (fun j hj => ?_)
          show cs_pc H (BE2 j) = if j < mi.toNat then P j else W j
          by_cases ej : j < mi.toNat
          · rw [if_pos ej, k4 j (by omega), k1 j (by omega)]; exact hP j (by omega)
          · rw [if_neg ej]; exact k6 j (by omega) hj
    · skip
      exact w_ret (h b bp PA BE M hC (fun _ _ => rfl) hN (cs_cut_k (lb := (cs_LB H (cs_b LA) at_.toNat)) (fun c q => lbe c q) (hN.le (by omega) (by omega))).symm)
end
section
/-! ===== water, as the PLAIN now asks for it (laid by a program) ===== -/
theorem lq_rW {H : Nat → Int} {w : Nat → Nat} {p v j : Nat} {M : mj_M} (h : rv_G4 H 0 w p M) (hv : v < 12) (e : j = 76 + v) : M.1 (w (p + 20)) v = H j := by
  subst e; rw [← h.2.2.2.2.2 v hv, Nat.zero_add]
theorem lq_rT {H : Nat → Int} {w : Nat → Nat} {p t v j : Nat} {M : mj_M} (h : rv_G4 H 0 w p M) (ht : t < 8) (hv : v < 9) (e : j = 4 + 9 * t + v) : M.1 (w (p + 3 + t)) v = H j := by
  subst e; rw [← h.2.2.2.2.1 t v ht hv, Nat.zero_add]
def lr_water (H : Nat → Int) (z1 : Int) : Int := if 0 ≤ z1 ∧ z1 ≤ 11 then H (z1 + 76).toNat else -1
set_option maxRecDepth 100000 in
set_option maxHeartbeats 2000000 in
theorem lr_X11_water {G : mj_G} {M : mj_M} {x m tp s kp bc bt kc kr : Nat} {w : Nat → Nat} {z1 : Int} (hI : lp_I G M x m tp s kp bc bt kc kr w) (hz1 : mj_in z1) : mj_R mj_tab 40 155 [.inr (.inr (some x)), .inl z1] G M (fun r _ _ => r = some (.inl (lr_water (M.1 s) z1))) := by
  obtain ⟨hA, hB, p, q, hN, hG6, -⟩ := hI.J
  have hG := hG6.1
  have hG5 := hG6
  obtain ⟨gpl, gna, gta, gba, gwa, gtr, gbr, itr, ibr, p0, p1, p2, p3, rt, rb⟩ := lq_K hA hB hN.pin.1
  have gx := hI.gx
  have gnw := hA.2.2.1
  have b0 := hI.b0
  have bz1 : (-2147483648 : Int) ≤ z1 ∧ z1 < 2147483648 := hz1
  refine ⟨Nat.le_of_ble_eq_true rfl, ?_⟩
  show wz 39 mt_X11_water.2.2.2.2.1 _ mt_X11_water.2.2.2.2.1 [some (.inr (.inr (some x))), some (.inl z1)] [] G M _ _
  refine w_iln rfl ?_
  refine w_cs (st := []) rfl (Nat.le_of_ble_eq_true rfl) (fun kk h => h) ⟨Nat.le_of_ble_eq_true rfl, ?_⟩
  show wz (38) mt_X11_isMonth.2.2.2.2.1 _ mt_X11_isMonth.2.2.2.2.1 [some (.inl z1)] [] _ _ _ _
  refine w_iln rfl ?_
  refine w_iflt (fun c1 => ?_) (fun c1 => ?_)
  · skip
    refine w_ic ?_
    refine w_iret (fun _ => Or.inl rfl) ?_
    refine w_ifeq (fun c2 => ?_) (fun c2 => ?_)
    · skip
      refine w_ic ?_
      exact w_iret (fun q => by cases q) (by show some (Sum.inl _) = some (Sum.inl _); unfold lr_water; split <;> first | rfl | (exfalso; omega))
    · exfalso; omega
  · skip
    refine w_iln rfl ?_
    refine w_bp ?_
    refine w_cmge (fun c3 => ?_) (fun c3 => ?_)
    · skip
      refine w_ic ?_
      refine w_iret (fun _ => Or.inl rfl) ?_
      refine w_ifeq (fun c4 => ?_) (fun c4 => ?_)
      · skip
        refine w_ic ?_
        exact w_iret (fun q => by cases q) (by show some (Sum.inl _) = some (Sum.inl _); unfold lr_water; split <;> first | rfl | (exfalso; omega))
      · exfalso; omega
    · skip
      refine w_ic ?_
      refine w_goto ?_
      refine w_iret (fun _ => Or.inr rfl) ?_
      refine w_ifeq (fun c5 => ?_) (fun c5 => ?_)
      · exfalso; omega
      · skip
        refine w_aln rfl ?_
        refine w_gr gx rfl (by decide) rfl (hB.2.1) ?_
        refine w_gr gnw rfl (by decide) rfl (hN.1) ?_
        refine w_gr gpl rfl (by decide) rfl (p3) ?_
        refine w_iln rfl ?_
        refine w_iald (v := (M.1 s (z1 + 76).toNat)) gwa rfl (by show (0 : Int) ≤ z1; omega) (by show z1 < ((12 : Nat) : Int); omega) (lq_rW hG (by show z1.toNat < 12; omega) (by show (z1 + 76).toNat = 76 + z1.toNat; omega)) ?_
        refine w_goto ?_
        exact w_iret (fun q => by cases q) (by show some (Sum.inl _) = some (Sum.inl _); unfold lr_water; split <;> first | rfl | (exfalso; omega))
set_option maxRecDepth 100000 in
set_option maxHeartbeats 2000000 in
theorem lr_X12_water {G : mj_G} {M : mj_M} {x m tp s kp bc bt kc kr : Nat} {w : Nat → Nat} {z1 : Int} (hI : lp_I G M x m tp s kp bc bt kc kr w) (hz1 : mj_in z1) : mj_R mj_tab 40 256 [.inr (.inr (some m)), .inl z1] G M (fun r _ _ => r = some (.inl (lr_water (M.1 s) z1))) := by
  have gm := hI.gm
  have gs := hI.gs
  have m6 := hI.m6
  have b0 := hI.b0
  have bz1 : (-2147483648 : Int) ≤ z1 ∧ z1 < 2147483648 := hz1
  refine ⟨Nat.le_of_ble_eq_true rfl, ?_⟩
  show wz 39 mt_X12_water.2.2.2.2.1 _ mt_X12_water.2.2.2.2.1 [some (.inr (.inr (some m))), some (.inl z1)] [] G M _ _
  refine w_aln rfl ?_
  refine w_ic ?_
  refine w_pi gm rfl (by decide) rfl (fun q => by cases q) ?_
  refine w_iln rfl ?_
  refine w_cs (st := []) rfl (Nat.le_of_ble_eq_true rfl) (fun kk h => h) ⟨Nat.le_of_ble_eq_true rfl, ?_⟩
  show wz (38) mt_X12_isMonth.2.2.2.2.1 _ mt_X12_isMonth.2.2.2.2.1 [some (.inl z1)] [] _ _ _ _
  refine w_iln rfl ?_
  refine w_ic ?_
  refine w_bp ?_
  refine w_cs (st := []) rfl (Nat.le_of_ble_eq_true rfl) (fun kk h => h) ⟨Nat.le_of_ble_eq_true rfl, ?_⟩
  show wz (37) mt_X12_isIn.2.2.2.2.1 _ mt_X12_isIn.2.2.2.2.1 [some (.inl z1), some (.inl 0), some (.inl 11)] [] _ _ _ _
  refine w_iln rfl ?_
  refine w_iln rfl ?_
  refine w_cmlt (fun c1 => ?_) (fun c1 => ?_)
  · skip
    refine w_ic ?_
    refine w_iret (fun _ => Or.inl rfl) ?_
    refine w_iret (fun _ => Or.inl rfl) ?_
    refine w_ifeq (fun c2 => ?_) (fun c2 => ?_)
    · skip
      refine w_ic ?_
      exact w_iret (fun q => by cases q) (by show some (Sum.inl _) = some (Sum.inl _); unfold lr_water; split <;> first | rfl | (exfalso; omega))
    · exfalso; omega
  · skip
    refine w_iln rfl ?_
    refine w_iln rfl ?_
    refine w_cmgt (fun c3 => ?_) (fun c3 => ?_)
    · skip
      refine w_ic ?_
      refine w_iret (fun _ => Or.inl rfl) ?_
      refine w_iret (fun _ => Or.inl rfl) ?_
      refine w_ifeq (fun c4 => ?_) (fun c4 => ?_)
      · skip
        refine w_ic ?_
        exact w_iret (fun q => by cases q) (by show some (Sum.inl _) = some (Sum.inl _); unfold lr_water; split <;> first | rfl | (exfalso; omega))
      · exfalso; omega
    · skip
      refine w_ic ?_
      refine w_goto ?_
      refine w_iret (fun _ => Or.inr rfl) ?_
      refine w_iret (fun _ => Or.inr rfl) ?_
      refine w_ifeq (fun c5 => ?_) (fun c5 => ?_)
      · exfalso; omega
      · skip
        refine w_aln rfl ?_
        refine w_gr gm rfl (by decide) rfl (m6) ?_
        refine w_bp ?_
        refine w_iln rfl ?_
        refine w_add ⟨by show (-2147483648 : Int) ≤ 76 + z1; omega, by show 76 + z1 < (2147483648 : Int); omega⟩ ?_
        refine w_iald (v := (M.1 s (z1 + 76).toNat)) gs rfl (by show (0 : Int) ≤ 76 + z1; omega) (by show 76 + z1 < ((537 : Nat) : Int); omega) ((hn_n (Or.inl (hn_ne gs gm (by decide)))).trans (congrArg (M.1 s) (by show (76 + z1).toNat = (z1 + 76).toNat; omega))) ?_
        refine w_goto ?_
        exact w_iret (fun q => by cases q) (by show some (Sum.inl _) = some (Sum.inl _); unfold lr_water; split <;> first | rfl | (exfalso; omega))
end
section
/-! ===== the cheapest letting: the class, prepare (laid by a program) ===== -/
theorem cs_most_9 {H : Nat → Int} (h : rv_r4 H 0) {m : Nat} (hm : m < 12) : ∀ n, n ≤ 8 → cs_most H m n ≤ 999
  | 0, _ => by show (0 : Int) ≤ 999; decide
  | n + 1, hn => by
    have h3 := cs_most_9 h hm n (by omega)
    have h4 := cs_gain_9 h (k := n) (m := m) (by omega) hm
    show max (cs_most H m n) (cs_gain H n m) ≤ 999
    omega
abbrev cq_ne (w : Nat → Nat) (a : Nat) : Prop := ∀ i, (i = 125 ∨ i = 127 ∨ i = 128 ∨ (130 ≤ i ∧ i ≤ 132) ∨ (134 ≤ i ∧ i ≤ 137)) → a ≠ w i
def cq_C (w : Nat → Nat) (M0 : mj_M) (t5 t6 : Int) (BR LA : Nat → Int) (GN RS : Nat → Nat → Int) (RB : Nat → Int) (M : mj_M) : Prop := M.2 = M0.2 ∧ (∀ a, cq_ne w a → M.1 a = M0.1 a) ∧ (∀ k, k ≠ 5 → k ≠ 6 → M.1 (w 125) k = M0.1 (w 125) k) ∧ M.1 (w 125) 5 = t5 ∧ M.1 (w 125) 6 = t6 ∧ (∀ k, k < 3 → M.1 (w 127) k = BR k) ∧ (∀ k, k < 3 → M.1 (w 128) k = LA k) ∧ (∀ t k, t < 3 → k < 12 → M.1 (w (130 + t)) k = GN t k) ∧ (∀ t k, t < 3 → k < 13 → M.1 (w (134 + t)) k = RS t k) ∧ (∀ k, k < 13 → M.1 (w 137) k = RB k)
section CQ
variable {G : mj_G} {M M0 : mj_M} {w : Nat → Nat} {t5 t6 : Int} {BR LA RB : Nat → Int} {GN RS : Nat → Nat → Int} {v z : Int} {j k a b i t tg n : Nat}
theorem cq_C.re : cq_C w M (M.1 (w 125) 5) (M.1 (w 125) 6) (M.1 (w 127)) (M.1 (w 128)) (fun t => M.1 (w (130 + t))) (fun t => M.1 (w (134 + t))) (M.1 (w 137)) M := ⟨rfl, fun _ _ => rfl, fun _ _ _ => rfl, rfl, rfl, fun _ _ => rfl, fun _ _ => rfl, fun _ _ _ _ => rfl, fun _ _ _ _ => rfl, fun _ _ => rfl⟩
theorem cq_C.r (h : cq_C w M0 t5 t6 BR LA GN RS RB M) (e : M0.2.2 a k = some b) : M.2.2 a k = some b := by rw [h.1]; exact e
theorem cq_C.io (h : cq_C w M0 t5 t6 BR LA GN RS RB M) (n : cq_ne w a) (e : M0.1 a k = z) : M.1 a k = z := by rw [h.2.1 a n]; exact e
theorem cp_GA.tge (h : cp_GA G w) (hi : i = 125 ∨ i = 127 ∨ i = 128 ∨ (130 ≤ i ∧ i ≤ 132) ∨ (134 ≤ i ∧ i ≤ 137)) (ha : G a = (tg, n)) (e : tg ≠ 1001 ∧ tg ≠ 3100 ∧ tg ≠ 4100 ∧ tg ≠ 6100 ∧ tg ≠ 8100 ∧ tg ≠ 9100) : a ≠ w i := by
  rcases hi with z | z | z | z | z
  · subst z; exact hn_ne ha h.g125 e.1
  · subst z; exact hn_ne ha h.g127 e.2.1
  · subst z; exact hn_ne ha h.g128 e.2.2.1
  · have g := h.w130 (k := i - 130) (by omega)
    rw [show 130 + (i - 130) = i by omega] at g
    exact hn_ne ha g e.2.2.2.1
  · by_cases z2 : i = 137
    · subst z2; exact hn_ne ha h.g137 e.2.2.2.2.2
    · have g := h.w134 (k := i - 134) (by omega)
      rw [show 134 + (i - 134) = i by omega] at g
      exact hn_ne ha g e.2.2.2.2.1
theorem cp_GA.qn (h : cp_GA G w) (ha : G a = (tg, n)) (e : tg ≠ 1001 ∧ tg ≠ 3100 ∧ tg ≠ 4100 ∧ tg ≠ 6100 ∧ tg ≠ 8100 ∧ tg ≠ 9100) : cq_ne w a := fun i hi => h.tge hi ha e
theorem cq_up2 {F : Nat → Nat → Int} {c N : Nat} (inj : ∀ t', t' < 3 → t' ≠ t → w (c + t') ≠ w (c + t)) (h : ∀ t k, t < 3 → k < N → M.1 (w (c + t)) k = F t k) : ∀ t' k, t' < 3 → k < N → (mj_p0 M (w (c + t)) j v).1 (w (c + t')) k = rv_up2 F t j v t' k := fun t' k ht hk => by
  by_cases e : t' = t
  · subst e
    by_cases e2 : k = j
    · subst e2; rw [rv_up2_s]; exact hn_s
    · rw [rv_up2_n e2]; exact (hn_n (Or.inr e2)).trans (h t' k ht hk)
  · rw [rv_up2_o e]; exact (hn_n (Or.inl (inj t' ht e))).trans (h t' k ht hk)
theorem cq_C.h5 (h : cq_C w M0 t5 t6 BR LA GN RS RB M) (ga : cp_GA G w) : cq_C w M0 v t6 BR LA GN RS RB (mj_p0 M (w 125) 5 v) :=
  ⟨h.1, fun a n => (wz_c (n 125 (by omega))).trans (h.2.1 a n), fun k h5 h6 => (hn_n (Or.inr h5)).trans (h.2.2.1 k h5 h6), hn_s, (hn_n (Or.inr (by decide))).trans h.2.2.2.2.1, fun k hk => (hn_n (Or.inl (ga.ne (by omega) (by omega) (by omega)))).trans (h.2.2.2.2.2.1 k hk), fun k hk => (hn_n (Or.inl (ga.ne (by omega) (by omega) (by omega)))).trans (h.2.2.2.2.2.2.1 k hk), fun t2 k h1 h2 => (hn_n (Or.inl (ga.ne (by omega) (by omega) (by omega)))).trans (h.2.2.2.2.2.2.2.1 t2 k h1 h2), fun t2 k h1 h2 => (hn_n (Or.inl (ga.ne (by omega) (by omega) (by omega)))).trans (h.2.2.2.2.2.2.2.2.1 t2 k h1 h2), fun k hk => (hn_n (Or.inl (ga.ne (by omega) (by omega) (by omega)))).trans (h.2.2.2.2.2.2.2.2.2 k hk)⟩
theorem cq_C.h6 (h : cq_C w M0 t5 t6 BR LA GN RS RB M) (ga : cp_GA G w) : cq_C w M0 t5 v BR LA GN RS RB (mj_p0 M (w 125) 6 v) :=
  ⟨h.1, fun a n => (wz_c (n 125 (by omega))).trans (h.2.1 a n), fun k h5 h6 => (hn_n (Or.inr h6)).trans (h.2.2.1 k h5 h6), (hn_n (Or.inr (by decide))).trans h.2.2.2.1, hn_s, fun k hk => (hn_n (Or.inl (ga.ne (by omega) (by omega) (by omega)))).trans (h.2.2.2.2.2.1 k hk), fun k hk => (hn_n (Or.inl (ga.ne (by omega) (by omega) (by omega)))).trans (h.2.2.2.2.2.2.1 k hk), fun t2 k h1 h2 => (hn_n (Or.inl (ga.ne (by omega) (by omega) (by omega)))).trans (h.2.2.2.2.2.2.2.1 t2 k h1 h2), fun t2 k h1 h2 => (hn_n (Or.inl (ga.ne (by omega) (by omega) (by omega)))).trans (h.2.2.2.2.2.2.2.2.1 t2 k h1 h2), fun k hk => (hn_n (Or.inl (ga.ne (by omega) (by omega) (by omega)))).trans (h.2.2.2.2.2.2.2.2.2 k hk)⟩
theorem cq_C.h127 (h : cq_C w M0 t5 t6 BR LA GN RS RB M) (ga : cp_GA G w) : cq_C w M0 t5 t6 (rv_up BR j v) LA GN RS RB (mj_p0 M (w 127) j v) :=
  ⟨h.1, fun a n => (wz_c (n 127 (by omega))).trans (h.2.1 a n), fun k h5 h6 => (hn_n (Or.inl (ga.ne (by omega) (by omega) (by omega)))).trans (h.2.2.1 k h5 h6), (hn_n (Or.inl (ga.ne (by omega) (by omega) (by omega)))).trans h.2.2.2.1, (hn_n (Or.inl (ga.ne (by omega) (by omega) (by omega)))).trans h.2.2.2.2.1, cp_up h.2.2.2.2.2.1, fun k hk => (hn_n (Or.inl (ga.ne (by omega) (by omega) (by omega)))).trans (h.2.2.2.2.2.2.1 k hk), fun t2 k h1 h2 => (hn_n (Or.inl (ga.ne (by omega) (by omega) (by omega)))).trans (h.2.2.2.2.2.2.2.1 t2 k h1 h2), fun t2 k h1 h2 => (hn_n (Or.inl (ga.ne (by omega) (by omega) (by omega)))).trans (h.2.2.2.2.2.2.2.2.1 t2 k h1 h2), fun k hk => (hn_n (Or.inl (ga.ne (by omega) (by omega) (by omega)))).trans (h.2.2.2.2.2.2.2.2.2 k hk)⟩
theorem cq_C.h128 (h : cq_C w M0 t5 t6 BR LA GN RS RB M) (ga : cp_GA G w) : cq_C w M0 t5 t6 BR (rv_up LA j v) GN RS RB (mj_p0 M (w 128) j v) :=
  ⟨h.1, fun a n => (wz_c (n 128 (by omega))).trans (h.2.1 a n), fun k h5 h6 => (hn_n (Or.inl (ga.ne (by omega) (by omega) (by omega)))).trans (h.2.2.1 k h5 h6), (hn_n (Or.inl (ga.ne (by omega) (by omega) (by omega)))).trans h.2.2.2.1, (hn_n (Or.inl (ga.ne (by omega) (by omega) (by omega)))).trans h.2.2.2.2.1, fun k hk => (hn_n (Or.inl (ga.ne (by omega) (by omega) (by omega)))).trans (h.2.2.2.2.2.1 k hk), cp_up h.2.2.2.2.2.2.1, fun t2 k h1 h2 => (hn_n (Or.inl (ga.ne (by omega) (by omega) (by omega)))).trans (h.2.2.2.2.2.2.2.1 t2 k h1 h2), fun t2 k h1 h2 => (hn_n (Or.inl (ga.ne (by omega) (by omega) (by omega)))).trans (h.2.2.2.2.2.2.2.2.1 t2 k h1 h2), fun k hk => (hn_n (Or.inl (ga.ne (by omega) (by omega) (by omega)))).trans (h.2.2.2.2.2.2.2.2.2 k hk)⟩
theorem cq_C.h130 (h : cq_C w M0 t5 t6 BR LA GN RS RB M) (ga : cp_GA G w) (ht : t < 3) : cq_C w M0 t5 t6 BR LA (rv_up2 GN t j v) RS RB (mj_p0 M (w (130 + t)) j v) :=
  ⟨h.1, fun a n => (wz_c (n (130 + t) (by omega))).trans (h.2.1 a n), fun k h5 h6 => (hn_n (Or.inl (ga.ne (by omega) (by omega) (by omega)))).trans (h.2.2.1 k h5 h6), (hn_n (Or.inl (ga.ne (by omega) (by omega) (by omega)))).trans h.2.2.2.1, (hn_n (Or.inl (ga.ne (by omega) (by omega) (by omega)))).trans h.2.2.2.2.1, fun k hk => (hn_n (Or.inl (ga.ne (by omega) (by omega) (by omega)))).trans (h.2.2.2.2.2.1 k hk), fun k hk => (hn_n (Or.inl (ga.ne (by omega) (by omega) (by omega)))).trans (h.2.2.2.2.2.2.1 k hk), cq_up2 (fun t' h1 h2 => ga.ne (by omega) (by omega) (by omega)) h.2.2.2.2.2.2.2.1, fun t2 k h1 h2 => (hn_n (Or.inl (ga.ne (by omega) (by omega) (by omega)))).trans (h.2.2.2.2.2.2.2.2.1 t2 k h1 h2), fun k hk => (hn_n (Or.inl (ga.ne (by omega) (by omega) (by omega)))).trans (h.2.2.2.2.2.2.2.2.2 k hk)⟩
theorem cq_C.h134 (h : cq_C w M0 t5 t6 BR LA GN RS RB M) (ga : cp_GA G w) (ht : t < 3) : cq_C w M0 t5 t6 BR LA GN (rv_up2 RS t j v) RB (mj_p0 M (w (134 + t)) j v) :=
  ⟨h.1, fun a n => (wz_c (n (134 + t) (by omega))).trans (h.2.1 a n), fun k h5 h6 => (hn_n (Or.inl (ga.ne (by omega) (by omega) (by omega)))).trans (h.2.2.1 k h5 h6), (hn_n (Or.inl (ga.ne (by omega) (by omega) (by omega)))).trans h.2.2.2.1, (hn_n (Or.inl (ga.ne (by omega) (by omega) (by omega)))).trans h.2.2.2.2.1, fun k hk => (hn_n (Or.inl (ga.ne (by omega) (by omega) (by omega)))).trans (h.2.2.2.2.2.1 k hk), fun k hk => (hn_n (Or.inl (ga.ne (by omega) (by omega) (by omega)))).trans (h.2.2.2.2.2.2.1 k hk), fun t2 k h1 h2 => (hn_n (Or.inl (ga.ne (by omega) (by omega) (by omega)))).trans (h.2.2.2.2.2.2.2.1 t2 k h1 h2), cq_up2 (fun t' h1 h2 => ga.ne (by omega) (by omega) (by omega)) h.2.2.2.2.2.2.2.2.1, fun k hk => (hn_n (Or.inl (ga.ne (by omega) (by omega) (by omega)))).trans (h.2.2.2.2.2.2.2.2.2 k hk)⟩
theorem cq_C.h137 (h : cq_C w M0 t5 t6 BR LA GN RS RB M) (ga : cp_GA G w) : cq_C w M0 t5 t6 BR LA GN RS (rv_up RB j v) (mj_p0 M (w 137) j v) :=
  ⟨h.1, fun a n => (wz_c (n 137 (by omega))).trans (h.2.1 a n), fun k h5 h6 => (hn_n (Or.inl (ga.ne (by omega) (by omega) (by omega)))).trans (h.2.2.1 k h5 h6), (hn_n (Or.inl (ga.ne (by omega) (by omega) (by omega)))).trans h.2.2.2.1, (hn_n (Or.inl (ga.ne (by omega) (by omega) (by omega)))).trans h.2.2.2.2.1, fun k hk => (hn_n (Or.inl (ga.ne (by omega) (by omega) (by omega)))).trans (h.2.2.2.2.2.1 k hk), fun k hk => (hn_n (Or.inl (ga.ne (by omega) (by omega) (by omega)))).trans (h.2.2.2.2.2.2.1 k hk), fun t2 k h1 h2 => (hn_n (Or.inl (ga.ne (by omega) (by omega) (by omega)))).trans (h.2.2.2.2.2.2.2.1 t2 k h1 h2), fun t2 k h1 h2 => (hn_n (Or.inl (ga.ne (by omega) (by omega) (by omega)))).trans (h.2.2.2.2.2.2.2.2.1 t2 k h1 h2), cp_up h.2.2.2.2.2.2.2.2.2⟩
end CQ
theorem r_p1 {G : mj_G} {M0 : mj_M} {x s p q : Nat} {w : Nat → Nat} {Q : mj_P} {d : Nat} (ga : cp_GA G w) (gb : cp_BA M0 w) (hA : lq_A G w) (hB : lq_B M0 w x) (hN : lq_N M0 w p q) (hG5 : rv_G6 (M0.1 s) 0 w p M0) (hr : rv_r4 (M0.1 s) 0) (t1 : 1 ≤ M0.1 s 0) (t3 : M0.1 s 0 ≤ 3) : ∀ (n : Nat) (k : Int) (BR LA RB : Nat → Int) (GN RS : Nat → Nat → Int) (M : mj_M) (v3 v4 : Option mj_V) (cb sb : Nat), k + n = M0.1 s 0 → 0 ≤ k → cq_C w M0 (M0.1 s 0) (M0.1 s 1) BR LA GN RS RB M → RB 12 = 0 → (∀ j : Nat, (j : Int) < k → BR j = M0.1 s (10 + 9 * j) ∧ LA j = M0.1 s (8 + 9 * j) ∧ RS j 12 = 0) → (∀ (BR LA RB : Nat → Int) (GN RS : Nat → Nat → Int) (M : mj_M) (v2 v3 v4 : Option mj_V) (cb sb : Nat), cq_C w M0 (M0.1 s 0) (M0.1 s 1) BR LA GN RS RB M → RB 12 = 0 → (∀ j : Nat, (j : Int) < M0.1 s 0 → BR j = M0.1 s (10 + 9 * j) ∧ LA j = M0.1 s (8 + 9 * j) ∧ RS j 12 = 0) → wz (d + 1) mt_X0_prepare.2.2.2.2.1 Q (mt_X0_prepare.2.2.2.2.1.drop 50) [some (.inr (.inr (some (w 125)))), some (.inr (.inr (some (w p)))), v2, v3, v4] [] G M cb sb) → wz (d + 1) mt_X0_prepare.2.2.2.2.1 Q (mt_X0_prepare.2.2.2.2.1.drop 17) [some (.inr (.inr (some (w 125)))), some (.inr (.inr (some (w p)))), some (.inl k), v3, v4] [] G M cb sb := by
  obtain ⟨gpl, gna, gta, gba, gwa, gtr, gbr, itr, ibr, p0, p1, p2, p3, rt, rb⟩ := lq_K hA hB hN.pin.1
  have hG := hG5.1
  have et := cs_te hr
  have b1 := cs_r1 hr
  intro n
  induction n with
  | zero =>
    intro k BR LA RB GN RS M v3 v4 cb sb e k0 hC h12 hI h
    refine w_iln rfl ?_
    refine w_aln rfl ?_
    refine w_gi ga.g125 rfl (by decide) rfl (hC.2.2.2.1) ?_
    refine w_cmge (fun c1 => ?_) (fun c1 => ?_)
    · skip
      exact h BR LA RB GN RS M _ _ _ _ _ hC h12 (fun j hj => hI j (by omega))
    · exfalso; omega
  | succ n ih =>
    intro k BR LA RB GN RS M v3 v4 cb sb e k0 hC h12 hI h
    refine w_iln rfl ?_
    refine w_aln rfl ?_
    refine w_gi ga.g125 rfl (by decide) rfl (hC.2.2.2.1) ?_
    refine w_cmge (fun c1 => ?_) (fun c1 => ?_)
    · exfalso; omega
    · skip
      refine w_aln rfl ?_
      refine w_gr ga.g125 rfl (by decide) rfl (hC.r gb.r125_7) ?_
      refine w_iln rfl ?_
      refine w_aln rfl ?_
      refine w_gr gpl rfl (by decide) rfl (hC.r (p1)) ?_
      refine w_iln rfl ?_
      refine w_aald gta rfl (by show (0 : Int) ≤ k; omega) (by show k < ((8 : Nat) : Int); omega) (hC.r (rt _ (by show k.toNat < 8; omega))) ?_
      refine w_bp ?_
      refine w_iald (v := (M0.1 s (9 * k + 10).toNat)) (gtr _ (by show k.toNat < 8; omega)) rfl (by show (0 : Int) ≤ 6; omega) (by show 6 < ((9 : Nat) : Int); omega) (hC.io (ga.qn (gtr _ (by show k.toNat < 8; omega)) (by decide)) (lq_rT hG (by show k.toNat < 8; omega) (by show (6 : Int).toNat < 9; omega) (by show (9 * k + 10).toNat = 4 + 9 * k.toNat + (6 : Int).toNat; omega))) ?_
      refine w_iast ga.g127 rfl (by decide) (by show (0 : Int) ≤ k; omega) (by show k < ((3 : Nat) : Int); omega) ?_
      have hC2 := hC.h127 (j := k.toNat) (v := (M0.1 s (9 * k + 10).toNat)) ga
      refine w_aln rfl ?_
      refine w_gr ga.g125 rfl (by decide) rfl (hC2.r gb.r125_8) ?_
      refine w_iln rfl ?_
      refine w_aln rfl ?_
      refine w_gr gpl rfl (by decide) rfl (hC2.r (p1)) ?_
      refine w_iln rfl ?_
      refine w_aald gta rfl (by show (0 : Int) ≤ k; omega) (by show k < ((8 : Nat) : Int); omega) (hC2.r (rt _ (by show k.toNat < 8; omega))) ?_
      refine w_ic ?_
      refine w_iald (v := (M0.1 s (9 * k + 8).toNat)) (gtr _ (by show k.toNat < 8; omega)) rfl (by show (0 : Int) ≤ 4; omega) (by show 4 < ((9 : Nat) : Int); omega) (hC2.io (ga.qn (gtr _ (by show k.toNat < 8; omega)) (by decide)) (lq_rT hG (by show k.toNat < 8; omega) (by show (4 : Int).toNat < 9; omega) (by show (9 * k + 8).toNat = 4 + 9 * k.toNat + (4 : Int).toNat; omega))) ?_
      refine w_iast ga.g128 rfl (by decide) (by show (0 : Int) ≤ k; omega) (by show k < ((3 : Nat) : Int); omega) ?_
      have hC3 := hC2.h128 (j := k.toNat) (v := (M0.1 s (9 * k + 8).toNat)) ga
      refine w_aln rfl ?_
      refine w_gr ga.g125 rfl (by decide) rfl (hC3.r gb.r125_10) ?_
      refine w_iln rfl ?_
      refine w_aald ga.g133 rfl (by show (0 : Int) ≤ k; omega) (by show k < ((3 : Nat) : Int); omega) (hC3.r (gb.w134 (by show k.toNat < 3; omega))) ?_
      refine w_bp ?_
      refine w_ic ?_
      refine w_iast (ga.w134 (by omega)) rfl (by decide) (by show (0 : Int) ≤ 12; omega) (by show 12 < ((13 : Nat) : Int); omega) ?_
      have hC4 := hC3.h134 (t := k.toNat) (j := (12 : Int).toNat) (v := 0) ga (by show k.toNat < 3; omega)
      refine w_ii rfl ⟨by show (-2147483648 : Int) ≤ k + 1; omega, by show k + 1 < (2147483648 : Int); omega⟩ ?_
      show wz _ _ _ _ [some (.inr (.inr (some (w 125)))), some (.inr (.inr (some (w p)))), some (.inl (k + 1)), v3, v4] _ _ _ _ _
      refine w_goto ?_
      refine ih (k + 1) _ _ _ _ _ _ _ _ _ _ (by omega) (by omega) hC4 h12 (fun j hj => ?_) h
      by_cases ej : (j : Int) = k
      · rw [show j = k.toNat by omega, rv_up_s, rv_up_s]
        exact ⟨congrArg (M0.1 s) (by omega), congrArg (M0.1 s) (by omega), rv_up2_s⟩
      · obtain ⟨q1, q2, q3⟩ := hI j (by omega)
        exact ⟨(rv_up_n (by omega)).trans q1, (rv_up_n (by omega)).trans q2, (congrFun (rv_up2_o (by omega)) _).trans q3⟩
theorem r_p3 {G : mj_G} {M0 : mj_M} {x s p q : Nat} {w : Nat → Nat} {Q : mj_P} {d : Nat} (ga : cp_GA G w) (gb : cp_BA M0 w) (hA : lq_A G w) (hB : lq_B M0 w x) (hN : lq_N M0 w p q) (hG5 : rv_G6 (M0.1 s) 0 w p M0) (hr : rv_r4 (M0.1 s) 0) (t1 : 1 ≤ M0.1 s 0) (t3 : M0.1 s 0 ≤ 3) {BR LA RB : Nat → Int} {GN RS : Nat → Nat → Int} {mo : Int} (m0 : 0 ≤ mo) (m11 : mo ≤ 11) (hRS : ∀ t : Nat, (t : Int) < M0.1 s 0 → RS t (mo + 1).toNat = cs_all (M0.1 s) t (12 - (mo + 1).toNat) (mo + 1).toNat) : ∀ (n : Nat) (k : Int) (GN2 RS2 : Nat → Nat → Int) (M : mj_M) (cb sb : Nat), k + n = M0.1 s 0 → 0 ≤ k → cq_C w M0 (M0.1 s 0) (M0.1 s 1) BR LA GN2 RS2 RB M → (∀ t : Nat, (t : Int) < k → GN2 t mo.toNat = cs_gain (M0.1 s) t mo.toNat ∧ RS2 t mo.toNat = cs_all (M0.1 s) t (12 - mo.toNat) mo.toNat) ∧ (∀ t j : Nat, (j : Int) ≠ mo → GN2 t j = GN t j ∧ RS2 t j = RS t j) → (∀ (GN2 RS2 : Nat → Nat → Int) (M : mj_M) (v4 : Option mj_V) (cb sb : Nat), cq_C w M0 (M0.1 s 0) (M0.1 s 1) BR LA GN2 RS2 RB M → (∀ t : Nat, (t : Int) < M0.1 s 0 → GN2 t mo.toNat = cs_gain (M0.1 s) t mo.toNat ∧ RS2 t mo.toNat = cs_all (M0.1 s) t (12 - mo.toNat) mo.toNat) ∧ (∀ t j : Nat, (j : Int) ≠ mo → GN2 t j = GN t j ∧ RS2 t j = RS t j) → wz (d + 1) mt_X0_prepare.2.2.2.2.1 Q (mt_X0_prepare.2.2.2.2.1.drop 104) [some (.inr (.inr (some (w 125)))), some (.inr (.inr (some (w p)))), some (.inl mo), some (.inl (cs_most (M0.1 s) mo.toNat (cs_t (M0.1 s)))), v4] [] G M cb sb) → wz (d + 1) mt_X0_prepare.2.2.2.2.1 Q (mt_X0_prepare.2.2.2.2.1.drop 58) [some (.inr (.inr (some (w 125)))), some (.inr (.inr (some (w p)))), some (.inl mo), some (.inl (cs_most (M0.1 s) mo.toNat k.toNat)), some (.inl k)] [] G M cb sb := by
  obtain ⟨gpl, gna, gta, gba, gwa, gtr, gbr, itr, ibr, p0, p1, p2, p3, rt, rb⟩ := lq_K hA hB hN.pin.1
  have hG := hG5.1
  have et := cs_te hr
  have b1 := cs_r1 hr
  have bw := cs_rw hr (j := (mo + 76).toNat) (by omega) (by omega)
  intro n
  induction n with
  | zero =>
    intro k GN2 RS2 M cb sb e k0 hC hI h
    obtain ⟨hI1, hI2⟩ := hI
    rw [show k.toNat = cs_t (M0.1 s) by omega]
    refine w_il rfl ?_
    refine w_aln rfl ?_
    refine w_gi ga.g125 rfl (by decide) rfl (hC.2.2.2.1) ?_
    refine w_cmge (fun c1 => ?_) (fun c1 => ?_)
    · skip
      exact h GN2 RS2 M _ _ _ hC ⟨fun t ht => hI1 t (by omega), hI2⟩
    · exfalso; omega
  | succ n ih =>
    intro k GN2 RS2 M cb sb e k0 hC hI h
    obtain ⟨hI1, hI2⟩ := hI
    have bt := cs_rt hr (j := (9 * k + 4).toNat) (by omega) (by omega)
    have hrs := hRS k.toNat (by omega)
    have hrs2 : RS2 k.toNat (mo + 1).toNat = cs_all (M0.1 s) k.toNat (12 - (mo + 1).toNat) (mo + 1).toNat := ((hI2 _ _ (by omega)).2).trans hrs
    have al := cs_all_9 hr (k := k.toNat) (by omega) (12 - (mo + 1).toNat) (mo + 1).toNat (by omega)
    have gi := cs_gain_i (H := M0.1 s) k0 m0
    have ms := cs_most_0 (H := M0.1 s) mo.toNat k.toNat
    have ms9 : cs_most (M0.1 s) mo.toNat k.toNat ≤ 999 := cs_most_9 hr (by omega) _ (by omega)
    have em : 12 - mo.toNat = 12 - (mo + 1).toNat + 1 := by omega
    have ek : (k + 1).toNat = k.toNat + 1 := by omega
    refine w_il rfl ?_
    refine w_aln rfl ?_
    refine w_gi ga.g125 rfl (by decide) rfl (hC.2.2.2.1) ?_
    refine w_cmge (fun c1 => ?_) (fun c1 => ?_)
    · exfalso; omega
    · skip
      refine w_aln rfl ?_
      refine w_gr ga.g125 rfl (by decide) rfl (hC.r gb.r125_9) ?_
      refine w_il rfl ?_
      refine w_aald ga.g129 rfl (by show (0 : Int) ≤ k; omega) (by show k < ((3 : Nat) : Int); omega) (hC.r (gb.w130 (by show k.toNat < 3; omega))) ?_
      refine w_iln rfl ?_
      refine w_aln rfl ?_
      refine w_il rfl ?_
      refine w_iln rfl ?_
      refine w_cv (st := [.inl mo, .inr (.inr (some (w (130 + k.toNat))))]) rfl gpl rfl (Nat.le_of_ble_eq_true rfl) (fun kk h => h) ⟨Nat.le_of_ble_eq_true rfl, ?_⟩
      show wz (d) mt_X3_gain.2.2.2.2.1 _ mt_X3_gain.2.2.2.2.1 [some (.inr (.inr (some (w p)))), some (.inl k), some (.inl mo)] [] _ _ _ _
      refine w_ic ?_
      refine w_aln rfl ?_
      refine w_gr gpl rfl (by decide) rfl (hC.r (p3)) ?_
      refine w_iln rfl ?_
      refine w_iald (v := (M0.1 s (mo + 76).toNat)) gwa rfl (by show (0 : Int) ≤ mo; omega) (by show mo < ((12 : Nat) : Int); omega) (hC.io (ga.qn gwa (by decide)) (lq_rW hG (by show mo.toNat < 12; omega) (by show (mo + 76).toNat = 76 + mo.toNat; omega))) ?_
      refine w_aln rfl ?_
      refine w_gr gpl rfl (by decide) rfl (hC.r (p1)) ?_
      refine w_iln rfl ?_
      refine w_aald gta rfl (by show (0 : Int) ≤ k; omega) (by show k < ((8 : Nat) : Int); omega) (hC.r (rt _ (by show k.toNat < 8; omega))) ?_
      refine w_ic ?_
      refine w_iald (v := (M0.1 s (9 * k + 4).toNat)) (gtr _ (by show k.toNat < 8; omega)) rfl (by show (0 : Int) ≤ 0; omega) (by show 0 < ((9 : Nat) : Int); omega) (hC.io (ga.qn (gtr _ (by show k.toNat < 8; omega)) (by decide)) (lq_rT hG (by show k.toNat < 8; omega) (by show (0 : Int).toNat < 9; omega) (by show (9 * k + 4).toNat = 4 + 9 * k.toNat + (0 : Int).toNat; omega))) ?_
      refine w_sub ⟨by show (-2147483648 : Int) ≤ (M0.1 s (mo + 76).toNat) - (M0.1 s (9 * k + 4).toNat); omega, by show (M0.1 s (mo + 76).toNat) - (M0.1 s (9 * k + 4).toNat) < (2147483648 : Int); omega⟩ ?_
      refine w_max (Nat.le_of_ble_eq_true rfl) ?_
      intro z2 fz2 gz2
      refine w_iret (fun q => by cases q) ?_
      refine w_iast (ga.w130 (by omega)) rfl (by decide) (by show (0 : Int) ≤ mo; omega) (by show mo < ((12 : Nat) : Int); omega) ?_
      have hC3 := hC.h130 (t := k.toNat) (j := mo.toNat) (v := z2) ga (by show k.toNat < 3; omega)
      refine w_aln rfl ?_
      refine w_gr ga.g125 rfl (by decide) rfl (hC3.r gb.r125_10) ?_
      refine w_il rfl ?_
      refine w_aald ga.g133 rfl (by show (0 : Int) ≤ k; omega) (by show k < ((3 : Nat) : Int); omega) (hC3.r (gb.w134 (by show k.toNat < 3; omega))) ?_
      refine w_iln rfl ?_
      refine w_aln rfl ?_
      refine w_gr ga.g125 rfl (by decide) rfl (hC3.r gb.r125_10) ?_
      refine w_il rfl ?_
      refine w_aald ga.g133 rfl (by show (0 : Int) ≤ k; omega) (by show k < ((3 : Nat) : Int); omega) (hC3.r (gb.w134 (by show k.toNat < 3; omega))) ?_
      refine w_iln rfl ?_
      refine w_ic ?_
      refine w_add ⟨by show (-2147483648 : Int) ≤ mo + 1; omega, by show mo + 1 < (2147483648 : Int); omega⟩ ?_
      refine w_iald (v := (RS2 k.toNat (mo + 1).toNat)) (ga.w134 (by omega)) rfl (by show (0 : Int) ≤ mo + 1; omega) (by show mo + 1 < ((13 : Nat) : Int); omega) (hC3.2.2.2.2.2.2.2.2.1 _ _ (by show k.toNat < 3; omega) (by show (mo + 1).toNat < 13; omega)) ?_
      refine w_aln rfl ?_
      refine w_gr ga.g125 rfl (by decide) rfl (hC3.r gb.r125_9) ?_
      refine w_il rfl ?_
      refine w_aald ga.g129 rfl (by show (0 : Int) ≤ k; omega) (by show k < ((3 : Nat) : Int); omega) (hC3.r (gb.w130 (by show k.toNat < 3; omega))) ?_
      refine w_iln rfl ?_
      refine w_iald (v := z2) (ga.w130 (by omega)) rfl (by show (0 : Int) ≤ mo; omega) (by show mo < ((12 : Nat) : Int); omega) ((hC3.2.2.2.2.2.2.2.1 _ _ (by show k.toNat < 3; omega) (by show mo.toNat < 12; omega)).trans rv_up2_s) ?_
      refine w_add ⟨by show (-2147483648 : Int) ≤ (RS2 k.toNat (mo + 1).toNat) + z2; omega, by show (RS2 k.toNat (mo + 1).toNat) + z2 < (2147483648 : Int); omega⟩ ?_
      refine w_iast (ga.w134 (by omega)) rfl (by decide) (by show (0 : Int) ≤ mo; omega) (by show mo < ((13 : Nat) : Int); omega) ?_
      have hC4 := hC3.h134 (t := k.toNat) (j := mo.toNat) (v := (RS2 k.toNat (mo + 1).toNat) + z2) ga (by show k.toNat < 3; omega)
      refine w_iln rfl ?_
      refine w_aln rfl ?_
      refine w_gr ga.g125 rfl (by decide) rfl (hC4.r gb.r125_9) ?_
      refine w_il rfl ?_
      refine w_aald ga.g129 rfl (by show (0 : Int) ≤ k; omega) (by show k < ((3 : Nat) : Int); omega) (hC4.r (gb.w130 (by show k.toNat < 3; omega))) ?_
      refine w_iln rfl ?_
      refine w_iald (v := z2) (ga.w130 (by omega)) rfl (by show (0 : Int) ≤ mo; omega) (by show mo < ((12 : Nat) : Int); omega) ((hC4.2.2.2.2.2.2.2.1 _ _ (by show k.toNat < 3; omega) (by show mo.toNat < 12; omega)).trans rv_up2_s) ?_
      refine w_max (Nat.le_of_ble_eq_true rfl) ?_
      intro z5 fz5 gz5
      refine w_isn ?_
      show wz _ _ _ _ [some (.inr (.inr (some (w 125)))), some (.inr (.inr (some (w p)))), some (.inl mo), some (.inl z5), some (.inl k)] _ _ _ _ _
      refine w_ii rfl ⟨by show (-2147483648 : Int) ≤ k + 1; omega, by show k + 1 < (2147483648 : Int); omega⟩ ?_
      show wz _ _ _ _ [some (.inr (.inr (some (w 125)))), some (.inr (.inr (some (w p)))), some (.inl mo), some (.inl z5), some (.inl (k + 1))] _ _ _ _ _
      refine w_goto ?_
      have eg : z2 = cs_gain (M0.1 s) k.toNat mo.toNat := by rw [gi]; split <;> omega
      have ers : (RS2 k.toNat (mo + 1).toNat) + z2 = cs_all (M0.1 s) k.toNat (12 - mo.toNat) mo.toNat := by
        rw [em]
        show _ = cs_gain (M0.1 s) k.toNat mo.toNat + cs_all (M0.1 s) k.toNat (12 - (mo + 1).toNat) (mo.toNat + 1)
        rw [show mo.toNat + 1 = (mo + 1).toNat by omega, ← hrs2]; omega
      have ems : z5 = cs_most (M0.1 s) mo.toNat (k + 1).toNat := by
        rw [ek]
        show _ = max (cs_most (M0.1 s) mo.toNat k.toNat) (cs_gain (M0.1 s) k.toNat mo.toNat)
        omega
      rw [ems]
      refine ih (k + 1) _ _ _ _ _ (by omega) (by omega) hC4 ⟨fun t ht => ?_, fun t j hj => ?_⟩ h
      · by_cases ej : (t : Int) = k
        · rw [show t = k.toNat by omega, rv_up2_s, rv_up2_s]; exact ⟨eg, ers⟩
        · rw [rv_up2_o (by omega), rv_up2_o (by omega)]; exact hI1 t (by omega)
      · rw [rv_up2_x (by omega), rv_up2_x (by omega)]; exact hI2 t j hj
theorem r_p2 {G : mj_G} {M0 : mj_M} {x s p q : Nat} {w : Nat → Nat} {Q : mj_P} {d : Nat} (ga : cp_GA G w) (gb : cp_BA M0 w) (hA : lq_A G w) (hB : lq_B M0 w x) (hN : lq_N M0 w p q) (hG5 : rv_G6 (M0.1 s) 0 w p M0) (hr : rv_r4 (M0.1 s) 0) (t1 : 1 ≤ M0.1 s 0) (t3 : M0.1 s 0 ≤ 3) : ∀ (n : Nat) (mo : Int) (BR LA RB : Nat → Int) (GN RS : Nat → Nat → Int) (M : mj_M) (v3 v4 : Option mj_V) (cb sb : Nat), mo + 1 = n → n ≤ 12 → cq_C w M0 (M0.1 s 0) (M0.1 s 1) BR LA GN RS RB M → (∀ j : Nat, (j : Int) < M0.1 s 0 → BR j = M0.1 s (10 + 9 * j) ∧ LA j = M0.1 s (8 + 9 * j)) ∧ (∀ t i : Nat, (t : Int) < M0.1 s 0 → mo < (i : Int) → i < 12 → GN t i = cs_gain (M0.1 s) t i) ∧ (∀ t i : Nat, (t : Int) < M0.1 s 0 → mo < (i : Int) → i ≤ 12 → RS t i = cs_all (M0.1 s) t (12 - i) i) ∧ (∀ i : Nat, mo < (i : Int) → i ≤ 12 → RB i = cs_bestof (M0.1 s) (12 - i) i) → (∀ (BR LA RB : Nat → Int) (GN RS : Nat → Nat → Int) (M : mj_M), cq_C w M0 (M0.1 s 0) (M0.1 s 1) BR LA GN RS RB M → (∀ j : Nat, (j : Int) < M0.1 s 0 → BR j = M0.1 s (10 + 9 * j) ∧ LA j = M0.1 s (8 + 9 * j)) ∧ (∀ t i : Nat, (t : Int) < M0.1 s 0 → (-1) < (i : Int) → i < 12 → GN t i = cs_gain (M0.1 s) t i) ∧ (∀ t i : Nat, (t : Int) < M0.1 s 0 → (-1) < (i : Int) → i ≤ 12 → RS t i = cs_all (M0.1 s) t (12 - i) i) ∧ (∀ i : Nat, (-1) < (i : Int) → i ≤ 12 → RB i = cs_bestof (M0.1 s) (12 - i) i) → Q none G M) → wz (d + 1) mt_X0_prepare.2.2.2.2.1 Q (mt_X0_prepare.2.2.2.2.1.drop 52) [some (.inr (.inr (some (w 125)))), some (.inr (.inr (some (w p)))), some (.inl mo), v3, v4] [] G M cb sb := by
  obtain ⟨gpl, gna, gta, gba, gwa, gtr, gbr, itr, ibr, p0, p1, p2, p3, rt, rb⟩ := lq_K hA hB hN.pin.1
  have hG := hG5.1
  have et := cs_te hr
  have b1 := cs_r1 hr
  intro n
  induction n with
  | zero =>
    intro mo BR LA RB GN RS M v3 v4 cb sb e en hC hI h
    obtain rfl : mo = -1 := by omega
    refine w_iln rfl ?_
    refine w_iflt (fun c1 => ?_) (fun c1 => ?_)
    · skip
      exact w_ret (h BR LA RB GN RS M hC hI)
    · exfalso; omega
  | succ n ih =>
    intro mo BR LA RB GN RS M v3 v4 cb sb e en hC hI h
    obtain ⟨hI1, hI2, hI3, hI4⟩ := hI
    have ms := cs_most_0 (H := M0.1 s) mo.toNat (cs_t (M0.1 s))
    have ms9 : cs_most (M0.1 s) mo.toNat (cs_t (M0.1 s)) ≤ 999 := cs_most_9 hr (by omega) _ (by omega)
    have hrb := hI4 (mo + 1).toNat (by omega) (by omega)
    have bo := cs_bo_9 hr (12 - (mo + 1).toNat) (mo + 1).toNat (by omega)
    have em : 12 - mo.toNat = 12 - (mo + 1).toNat + 1 := by omega
    refine w_iln rfl ?_
    refine w_iflt (fun c1 => ?_) (fun c1 => ?_)
    · exfalso; omega
    · skip
      refine w_ic ?_
      refine w_isn ?_
      show wz _ _ _ _ [some (.inr (.inr (some (w 125)))), some (.inr (.inr (some (w p)))), some (.inl mo), some (.inl 0), v4] _ _ _ _ _
      refine w_ic ?_
      refine w_is ?_
      show wz _ _ _ _ [some (.inr (.inr (some (w 125)))), some (.inr (.inr (some (w p)))), some (.inl mo), some (.inl 0), some (.inl 0)] _ _ _ _ _
      refine r_p3 ga gb hA hB hN hG5 hr t1 t3 (mo := mo) (BR := BR) (LA := LA) (RB := RB) (GN := GN) (RS := RS) (by omega) (by omega) (fun t ht => hI3 t _ ht (by omega) (by omega)) (cs_t (M0.1 s)) 0 GN RS _ _ _ (by omega) (by decide) hC ⟨fun t ht => absurd ht (by omega), fun _ _ _ => ⟨rfl, rfl⟩⟩ (fun GN2 RS2 M2 v4 cb sb hC2 hJ => ?_)
      obtain ⟨hJ1, hJ2⟩ := hJ
      refine w_aln rfl ?_
      refine w_gr ga.g125 rfl (by decide) rfl (hC2.r gb.r125_11) ?_
      refine w_iln rfl ?_
      refine w_aln rfl ?_
      refine w_gr ga.g125 rfl (by decide) rfl (hC2.r gb.r125_11) ?_
      refine w_iln rfl ?_
      refine w_ic ?_
      refine w_add ⟨by show (-2147483648 : Int) ≤ mo + 1; omega, by show mo + 1 < (2147483648 : Int); omega⟩ ?_
      refine w_iald (v := (RB (mo + 1).toNat)) ga.g137 rfl (by show (0 : Int) ≤ mo + 1; omega) (by show mo + 1 < ((13 : Nat) : Int); omega) (hC2.2.2.2.2.2.2.2.2.2 _ (by show (mo + 1).toNat < 13; omega)) ?_
      refine w_iln rfl ?_
      refine w_add ⟨by show (-2147483648 : Int) ≤ (RB (mo + 1).toNat) + (cs_most (M0.1 s) mo.toNat (cs_t (M0.1 s))); omega, by show (RB (mo + 1).toNat) + (cs_most (M0.1 s) mo.toNat (cs_t (M0.1 s))) < (2147483648 : Int); omega⟩ ?_
      refine w_iast ga.g137 rfl (by decide) (by show (0 : Int) ≤ mo; omega) (by show mo < ((13 : Nat) : Int); omega) ?_
      have hC2 := hC2.h137 (j := mo.toNat) (v := (RB (mo + 1).toNat) + (cs_most (M0.1 s) mo.toNat (cs_t (M0.1 s)))) ga
      refine w_ii rfl ⟨by show (-2147483648 : Int) ≤ mo + (-1); omega, by show mo + (-1) < (2147483648 : Int); omega⟩ ?_
      show wz _ _ _ _ [some (.inr (.inr (some (w 125)))), some (.inr (.inr (some (w p)))), some (.inl (mo + (-1))), some (.inl (cs_most (M0.1 s) mo.toNat (cs_t (M0.1 s)))), v4] _ _ _ _ _
      refine w_goto ?_
      refine ih (mo - 1) _ _ _ _ _ _ _ _ _ _ (by omega) (by omega) hC2 ⟨hI1, fun t i h1 h2 h3 => ?_, fun t i h1 h2 h3 => ?_, fun i h2 h3 => ?_⟩ h
      · by_cases ej : (i : Int) = mo
        · rw [show i = mo.toNat by omega]; exact (hJ1 t h1).1
        · rw [(hJ2 t i ej).1]; exact hI2 t i h1 (by omega) h3
      · by_cases ej : (i : Int) = mo
        · rw [show i = mo.toNat by omega]; exact (hJ1 t h1).2
        · rw [(hJ2 t i ej).2]; exact hI3 t i h1 (by omega) h3
      · by_cases ej : (i : Int) = mo
        · rw [show i = mo.toNat by omega, rv_up_s, hrb, em]
          show _ = cs_bestof (M0.1 s) (12 - (mo + 1).toNat) (mo.toNat + 1) + cs_most (M0.1 s) mo.toNat (cs_t (M0.1 s))
          rw [show mo.toNat + 1 = (mo + 1).toNat by omega]
        · rw [rv_up_n (by omega)]; exact hI4 i (by omega) h3
theorem r_X0_prepare {G : mj_G} {M0 : mj_M} {x s p q : Nat} {w : Nat → Nat} {Q : mj_P} {d : Nat} (ga : cp_GA G w) (gb : cp_BA M0 w) (hA : lq_A G w) (hB : lq_B M0 w x) (hN : lq_N M0 w p q) (hG5 : rv_G6 (M0.1 s) 0 w p M0) (hr : rv_r4 (M0.1 s) 0) (t1 : 1 ≤ M0.1 s 0) (t3 : M0.1 s 0 ≤ 3) (h : ∀ (BR LA RB : Nat → Int) (GN RS : Nat → Nat → Int) (M : mj_M), cq_C w M0 (M0.1 s 0) (M0.1 s 1) BR LA GN RS RB M → (∀ j : Nat, (j : Int) < M0.1 s 0 → BR j = M0.1 s (10 + 9 * j) ∧ LA j = M0.1 s (8 + 9 * j)) ∧ (∀ t i : Nat, (t : Int) < M0.1 s 0 → (-1) < (i : Int) → i < 12 → GN t i = cs_gain (M0.1 s) t i) ∧ (∀ t i : Nat, (t : Int) < M0.1 s 0 → (-1) < (i : Int) → i ≤ 12 → RS t i = cs_all (M0.1 s) t (12 - i) i) ∧ (∀ i : Nat, (-1) < (i : Int) → i ≤ 12 → RB i = cs_bestof (M0.1 s) (12 - i) i) → Q none G M) : mj_R mj_tab (d + 2) 10 [.inr (.inr (some (w 125))), .inr (.inr (some (w p)))] G M0 Q := by
  obtain ⟨gpl, gna, gta, gba, gwa, gtr, gbr, itr, ibr, p0, p1, p2, p3, rt, rb⟩ := lq_K hA hB hN.pin.1
  have hG := hG5.1
  have et := cs_te hr
  have b1 := cs_r1 hr
  have hC := cq_C.re (w := w) (M := M0)
  obtain ⟨t5, ht5⟩ : ∃ F, F = M0.1 (w 125) 5 := ⟨_, rfl⟩
  obtain ⟨t6, ht6⟩ : ∃ F, F = M0.1 (w 125) 6 := ⟨_, rfl⟩
  obtain ⟨BR, hBR⟩ : ∃ F, F = M0.1 (w 127) := ⟨_, rfl⟩
  obtain ⟨LA, hLA⟩ : ∃ F, F = M0.1 (w 128) := ⟨_, rfl⟩
  obtain ⟨RB, hRB⟩ : ∃ F, F = M0.1 (w 137) := ⟨_, rfl⟩
  obtain ⟨GN, hGN⟩ : ∃ F : Nat → Nat → Int, F = fun t => M0.1 (w (130 + t)) := ⟨_, rfl⟩
  obtain ⟨RS, hRS⟩ : ∃ F : Nat → Nat → Int, F = fun t => M0.1 (w (134 + t)) := ⟨_, rfl⟩
  rw [← ht5, ← ht6, ← hBR, ← hLA, ← hRB, ← hGN, ← hRS] at hC
  refine ⟨Nat.le_of_ble_eq_true rfl, ?_⟩
  show wz (d + 1) mt_X0_prepare.2.2.2.2.1 Q mt_X0_prepare.2.2.2.2.1 [some (.inr (.inr (some (w 125)))), some (.inr (.inr (some (w p)))), none, none, none] [] G M0 _ _
  refine w_aln rfl ?_
  refine w_aln rfl ?_
  refine w_gi gpl rfl (by decide) rfl (hC.io (ga.qn gpl (by decide)) (hG.1.symm)) ?_
  refine w_ic ?_
  refine w_min (Nat.le_of_ble_eq_true rfl) ?_
  intro z1 fz1 gz1
  refine w_pi ga.g125 rfl (by decide) rfl (fun q => by cases q) ?_
  have hC2 := hC.h5 (v := z1) ga
  refine w_aln rfl ?_
  refine w_aln rfl ?_
  refine w_gi gpl rfl (by decide) rfl (hC2.io (ga.qn gpl (by decide)) (hG.2.1.symm)) ?_
  refine w_pi ga.g125 rfl (by decide) rfl (fun q => by cases q) ?_
  have hC3 := hC2.h6 (v := (M0.1 s 1)) ga
  refine w_aln rfl ?_
  refine w_gr ga.g125 rfl (by decide) rfl (hC3.r gb.r125_11) ?_
  refine w_bp ?_
  refine w_ic ?_
  refine w_iast ga.g137 rfl (by decide) (by show (0 : Int) ≤ 12; omega) (by show 12 < ((13 : Nat) : Int); omega) ?_
  have hC4 := hC3.h137 (j := (12 : Int).toNat) (v := 0) ga
  refine w_ic ?_
  refine w_isn ?_
  show wz _ _ _ _ [some (.inr (.inr (some (w 125)))), some (.inr (.inr (some (w p)))), some (.inl 0), none, none] _ _ _ _ _
  obtain rfl : z1 = M0.1 s 0 := by omega
  refine r_p1 ga gb hA hB hN hG5 hr t1 t3 (cs_t (M0.1 s)) 0 _ _ _ _ _ _ _ _ _ _ (by omega) (by decide) hC4 (show rv_up RB (12 : Int).toNat 0 12 = 0 from rv_up_s) (fun j hj => absurd hj (by omega)) (fun BR LA RB GN RS M v2 v3 v4 cb sb hC2 g12 hI => ?_)
  refine w_bp ?_
  refine w_isn ?_
  exact r_p2 ga gb hA hB hN hG5 hr t1 t3 12 11 BR LA RB GN RS M _ _ _ _ (by decide) (by decide) hC2 ⟨fun j hj => ⟨(hI j hj).1, (hI j hj).2.1⟩, fun t i h1 h2 h3 => by omega, fun t i h1 h2 h3 => by rw [show i = 12 by omega]; exact (hI t h1).2.2, fun i h2 h3 => by rw [show i = 12 by omega]; exact g12⟩ h
end
