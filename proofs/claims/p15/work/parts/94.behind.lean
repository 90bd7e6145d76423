/-! ===== by hand: behind of the reference ===== -/
theorem hn_Q.wr {G : mj_G} {M M' : mj_M} {m rd sk t c h o b B t' c' h' B' : Nat} (hq : hn_Q G M m rd sk t c h o b B) (hJ : hn_J G M' m rd sk t' c' h') (hf : ab_frm hn_W G M M') (hb : hn_b (hn_f M sk) t' = B') : hn_Q G M' m rd sk t' c' h' o b B' := by
  have hm : G m = (1012, 0) := hq.1.1.1
  have hsk : G sk = (68100, 45) := hq.1.1.2.2.2.2
  exact ⟨hJ, (hf m 54 (by rw [hm]; exact hn_nc (by decide))).1.trans hq.2.1, (hf m 57 (by rw [hm]; exact hn_nc (by decide))).1.trans hq.2.2.1, (hn_b.cg (fun j _ => (hf sk j (by rw [hsk]; exact hn_nt (by decide))).1)).trans hb⟩
set_option maxRecDepth 100000 in
theorem r_behind {d m rd sk t c o B : Nat} {G : mj_G} {M : mj_M} {Q : mj_P} (hS : hn_Q G M m rd sk t c (B + 1) o 1 B) (ho : o ≤ 20) (hto : t + 1 ≤ o) (hct : c + t + 1 ≤ 2 * o)
    (hQ0 : ∀ M', ab_Inv G M' → ab_frm hn_WS G M M' → Q (some (.inl 0)) G M')
    (hQ1 : ∀ M' t' c' b' B', hn_Q G M' m rd sk t' c' (B' + b') o b' B' → ((b' = 0 ∧ t' ≤ t + 1 ∧ c' + t' = c + t + 1) ∨ (b' = 1 ∧ t' + 1 ≤ t ∧ c' + t' + 1 = c + t)) → ab_frm hn_WS G M M' → Q (some (.inl 1)) G M') : mj_R mj_tab (d + 3) 164 [.inr (.inr (some m))] G M Q := by
  have hm : G m = (1012, 0) := hS.1.1.1
  have hrd : G rd = (53100, 135) := hS.1.1.2.2.1
  have hsk : G sk = (68100, 45) := hS.1.1.2.2.2.2
  have nr : m ≠ rd := hn_ne hm hrd (by decide)
  have nk : m ≠ sk := hn_ne hm hsk (by decide)
  have nkr : rd ≠ sk := hn_ne hrd hsk (by decide)
  have P30 : ∀ (M6 : mj_M) (v : Int) (t2 c2 B2 cb sb : Nat), (v = 11 ∨ v = 12) → hn_Q G M6 m rd sk t2 c2 (B2 + 1) o 1 B2 → t2 ≤ t → c2 + t2 = c + t → ab_frm hn_WS G M M6 → mj_W sx_ms (mj_R mj_tab (d + 2)) mt_X12_behind.2.2.2.2.1 Q (mt_X12_behind.2.2.2.2.1.drop 30) [some (.inr (.inr (some m)))] [.inl v, .inl (t2 : Int), .inr (.inr (some sk))] G M6 cb sb := by
    intro M6 v t2 c2 B2 cb sb hv S6 h1 h2 F6
    have fin : ∀ (j : Nat) (T : Int), j = t2 → T = ((t2 + 1 : Nat) : Int) → hn_Q G (mj_p0 (mj_p0 (mj_p0 M6 sk j v) m 55 T) m 57 0) m rd sk (t2 + 1) c2 (B2 + 1 + 0) o 0 (B2 + 1) ∧ ab_frm hn_WS G M (mj_p0 (mj_p0 (mj_p0 M6 sk j v) m 55 T) m 57 0) := by
      intro j T e1 e2
      subst e1 e2
      have i5 : ab_Inv G (mj_p0 M6 sk j v) := S6.1.2.1.p0 (by rw [hsk]; rcases hv with rfl | rfl <;> exact ⟨(by decide : (-2147483648 : Int) ≤ _), (by decide : _ ≤ (2147483647 : Int))⟩)
      have i6 := hn_Q.mi (rd := rd) (sk := sk) hm i5 (k := 55) (v := ((j + 1 : Nat) : Int)) ⟨by omega, by omega⟩ (by decide)
      have i7 : ab_Inv G (mj_p0 (mj_p0 (mj_p0 M6 sk j v) m 55 ((j + 1 : Nat) : Int)) m 57 0) := i6.p0 (by rw [hm]; exact ⟨by decide, by decide⟩)
      have F5 : ab_frm hn_WS G M (mj_p0 M6 sk j v) := hn_f0 F6 ⟨(68100, 0, 44), by decide, by rw [hsk], Nat.zero_le _, by show j ≤ 44; omega⟩
      have qm : ∀ k, k ≠ 55 → k ≠ 57 → (mj_p0 (mj_p0 (mj_p0 M6 sk j v) m 55 ((j + 1 : Nat) : Int)) m 57 0).1 m k = M6.1 m k := fun k h1 h2 => (hn_n (Or.inr h2)).trans ((hn_n (Or.inr h1)).trans (hn_n (Or.inl nk)))
      have qr : ∀ k, (mj_p0 (mj_p0 (mj_p0 M6 sk j v) m 55 ((j + 1 : Nat) : Int)) m 57 0).1 rd k = M6.1 rd k := fun k => (hn_n (Or.inl nr.symm)).trans ((hn_n (Or.inl nr.symm)).trans (hn_n (Or.inl nkr)))
      have qk : ∀ k, (mj_p0 (mj_p0 (mj_p0 M6 sk j v) m 55 ((j + 1 : Nat) : Int)) m 57 0).1 sk k = (mj_p0 M6 sk j v).1 sk k := fun k => (hn_n (Or.inl nk.symm)).trans (hn_n (Or.inl nk.symm))
      refine ⟨⟨⟨S6.1.1, i7, (hn_n (Or.inr (by decide))).trans hn_s, (qm 53 (by decide) (by decide)).trans S6.1.2.2.2.1, S6.1.2.2.2.2.cg (fun j _ => (qr _).symm)⟩, (qm 54 (by decide) (by decide)).trans S6.2.1, hn_s, ?_⟩, hn_fm hm (hn_fm hm F5 (by decide)) (by decide)⟩
      have b1 := S6.2.2.2
      have b2 : hn_b (hn_f (mj_p0 (mj_p0 (mj_p0 M6 sk j v) m 55 ((j + 1 : Nat) : Int)) m 57 0) sk) j = hn_b (hn_f M6 sk) j := hn_b.cg (fun i hi => (qk i).trans (hn_n (Or.inr (by omega))))
      show hn_b (hn_f (mj_p0 (mj_p0 (mj_p0 M6 sk j v) m 55 ((j + 1 : Nat) : Int)) m 57 0) sk) j + (if (mj_p0 (mj_p0 (mj_p0 M6 sk j v) m 55 ((j + 1 : Nat) : Int)) m 57 0).1 sk j = 11 ∨ (mj_p0 (mj_p0 (mj_p0 M6 sk j v) m 55 ((j + 1 : Nat) : Int)) m 57 0).1 sk j = 12 then 1 else 0) = B2 + 1
      rw [b2, b1, qk, hn_s, if_pos hv]
    refine mj_W.run (mj_R_mo _ _) 40 ?_
    refine ⟨68100, 45, hsk, rfl, by decide, by show (0 : Int) ≤ (t2 : Int); omega, by show (t2 : Int) < ((45 : Nat) : Int); omega, ?_⟩
    refine hn_gi (fk := 55) (v := (t2 : Int)) (List.cons_ne_nil _ _) rfl rfl rfl hm ((hn_n (Or.inl nk)).trans S6.1.2.2.1) ?_
    refine Or.inl ⟨⟨by show (-2147483648 : Int) ≤ (t2 : Int) + 1; omega, by show (t2 : Int) + 1 < (2147483648 : Int); omega⟩, ?_⟩
    refine hn_pi (fk := 55) (List.cons_ne_nil _ _) rfl rfl rfl hm (fun q => by cases q) ?_
    refine hn_pi (fk := 57) (List.cons_ne_nil _ _) rfl rfl rfl hm (fun _ => Or.inl rfl) ?_
    refine ⟨List.cons_ne_nil _ _, 1012, 0, hm, rfl, Nat.le_of_ble_eq_true rfl, Nat.zero_le _, Nat.zero_le _, ?_⟩
    obtain ⟨S7, F7⟩ := fin _ _ (show ((t2 : Int)).toNat = t2 by omega) (show (t2 : Int) + 1 = _ by omega)
    exact r_next hm S7.1.2.1 (fun M8 i8 f8 => ⟨rfl, fun _ => Or.inr rfl, hQ1 M8 (t2 + 1) c2 0 (B2 + 1) (S7.fr f8 i8 (by decide)) (Or.inl ⟨rfl, by omega, by omega⟩) (F7.tr (hn_up f8 (by decide)))⟩)
  have P18 : ∀ (M4 : mj_M) (till : Int) (t1 c1 cb sb : Nat), hn_Q G M4 m rd sk t1 c1 (B + 1) o 1 B → t1 ≤ t → c1 + t1 = c + t → ab_frm hn_WS G M M4 → mj_W sx_ms (mj_R mj_tab (d + 2)) mt_X12_behind.2.2.2.2.1 Q (mt_X12_behind.2.2.2.2.1.drop 18) [some (.inr (.inr (some m)))] [.inl till, .inr (.inr (some m))] G M4 cb sb := by
    intro M4 till t1 c1 cb sb S4 h1 h2 F4
    refine mj_W.run (mj_R_mo _ _) 40 ?_
    refine ⟨List.cons_ne_nil _ _, 1012, 0, hm, rfl, Nat.le_of_ble_eq_true rfl, Nat.zero_le _, Nat.zero_le _, ?_⟩
    refine r_joins (t := t1) (c := c1) (by rw [S4.2.2.2]; exact S4.1) (by omega) (fun M5 t2 c2 J5 g2 g3 f5 _ => ?_)
    have S5 : hn_Q G M5 m rd sk t2 c2 (hn_b (hn_f M4 sk) t2 + 1) o 1 (hn_b (hn_f M4 sk) t2) := S4.wr J5 f5 rfl
    have F5 : ab_frm hn_WS G M M5 := F4.tr (hn_up f5 (by decide))
    refine hn_gr (fk := 52) (List.cons_ne_nil _ _) rfl rfl rfl hm S5.1.1.2.2.2.1 ?_
    refine hn_gi (fk := 55) (v := (t2 : Int)) (List.cons_ne_nil _ _) rfl rfl rfl hm S5.1.2.2.1 ?_
    refine ⟨List.cons_ne_nil _ _, 1012, 0, hm, rfl, Nat.le_of_ble_eq_true rfl, Nat.zero_le _, Nat.zero_le _, ?_⟩
    refine r_isWord hm S5.1.2.1 (fun M6 p i6 f6 hp => ?_)
    have S6 := S5.fr f6 i6 (by decide)
    have F6 : ab_frm hn_WS G M M6 := F5.tr (hn_up f6 (by decide))
    exact ⟨fun c1 => mj_W.stay (mj_R_mo _ _) 30 (P30 M6 12 t2 c2 _ _ _ (Or.inr rfl) S6 (by omega) (by omega) F6), fun c1 => mj_W.stay (mj_R_mo _ _) 29 (P30 M6 11 t2 c2 _ _ _ (Or.inl rfl) S6 (by omega) (by omega) F6)⟩
  have P10 : ∀ (M3 : mj_M) (t1 c1 cb sb : Nat), hn_Q G M3 m rd sk t1 c1 (B + 1) o 1 B → t1 ≤ t → c1 + t1 = c + t → ab_frm hn_WS G M M3 → mj_W sx_ms (mj_R mj_tab (d + 2)) mt_X12_behind.2.2.2.2.1 Q (mt_X12_behind.2.2.2.2.1.drop 10) [some (.inr (.inr (some m)))] [] G M3 cb sb := by
    intro M3 t1 c1 cb sb S3 h1 h2 F3
    refine mj_W.run (mj_R_mo _ _) 40 ?_
    refine ⟨List.cons_ne_nil _ _, 1012, 0, hm, rfl, Nat.le_of_ble_eq_true rfl, Nat.zero_le _, Nat.zero_le _, ?_⟩
    refine r_isWord hm S3.1.2.1 (fun M4 p i4 f4 hp => ?_)
    have S4 := S3.fr f4 i4 (by decide)
    have F4 : ab_frm hn_WS G M M4 := F3.tr (hn_up f4 (by decide))
    exact ⟨fun c1 => mj_W.stay (mj_R_mo _ _) 34 (P18 M4 12 t1 _ _ _ S4 h1 h2 F4), fun c1 => mj_W.stay (mj_R_mo _ _) 33 (P18 M4 11 t1 _ _ _ S4 h1 h2 F4)⟩
  have P54 : ∀ (M5 : mj_M) (cb sb : Nat), ab_Inv G M5 → ab_frm hn_WS G M M5 → mj_W sx_ms (mj_R mj_tab (d + 2)) mt_X12_behind.2.2.2.2.1 Q (mt_X12_behind.2.2.2.2.1.drop 54) [some (.inr (.inr (some m)))] [] G M5 cb sb := by
    intro M5 cb sb I5 F5
    refine mj_W.run (mj_R_mo _ _) 10 ?_
    refine ⟨List.cons_ne_nil _ _, 1012, 0, hm, rfl, Nat.le_of_ble_eq_true rfl, Nat.zero_le _, Nat.zero_le _, ?_⟩
    exact r_bad hm I5 ⟨by decide, by decide⟩ (fun Mb ib fb => ⟨rfl, fun _ => Or.inl rfl, hQ0 Mb ib (F5.tr (hn_up fb (by decide)))⟩)
  have P58 : ∀ (M5 : mj_M) (u c2 B2 cb sb : Nat), hn_Q G M5 m rd sk (u + 1) c2 (B2 + 1) o 1 B2 → (M5.1 sk u ≠ 11 ∧ M5.1 sk u ≠ 12) → u + 1 ≤ t → c2 + (u + 1) = c + t → ab_frm hn_WS G M M5 → mj_W sx_ms (mj_R mj_tab (d + 2)) mt_X12_behind.2.2.2.2.1 Q (mt_X12_behind.2.2.2.2.1.drop 58) [some (.inr (.inr (some m)))] [] G M5 cb sb := by
    intro M5 u c2 B2 cb sb S5 hu h1 h2 F5
    have fin : ∀ (T z : Int), T = (u : Int) → mj_in z → hn_Q G (mj_p0 (mj_p0 M5 m 55 T) m 56 z) m rd sk u c2 (B2 + 1) o 1 B2 ∧ ab_frm hn_WS G M (mj_p0 (mj_p0 M5 m 55 T) m 56 z) := by
      intro T z e hz
      subst e
      have i6 := hn_Q.mi (rd := rd) (sk := sk) hm S5.1.2.1 (k := 55) (v := (u : Int)) ⟨by omega, by omega⟩ (by decide)
      have i7 := hn_Q.mi (rd := rd) (sk := sk) hm i6 (k := 56) hz (by decide)
      have qm : ∀ k, k ≠ 55 → k ≠ 56 → (mj_p0 (mj_p0 M5 m 55 (u : Int)) m 56 z).1 m k = M5.1 m k := fun k h1 h2 => (hn_n (Or.inr h2)).trans (hn_n (Or.inr h1))
      refine ⟨⟨⟨S5.1.1, i7, (hn_n (Or.inr (by decide))).trans hn_s, (qm 53 (by decide) (by decide)).trans S5.1.2.2.2.1, S5.1.2.2.2.2.cg (fun j _ => ((hn_n (Or.inl nr.symm)).trans (hn_n (Or.inl nr.symm))).symm)⟩, (qm 54 (by decide) (by decide)).trans S5.2.1, (qm 57 (by decide) (by decide)).trans S5.2.2.1, (hn_b.cg (fun j _ => (hn_n (Or.inl nk.symm)).trans (hn_n (Or.inl nk.symm)))).trans ?_⟩, hn_fm hm (hn_fm hm F5 (by decide)) (by decide)⟩
      have b1 : hn_b (hn_f M5 sk) u + (if M5.1 sk u = 11 ∨ M5.1 sk u = 12 then 1 else 0) = B2 := S5.2.2.2
      rw [if_neg (fun e => e.elim hu.1 hu.2)] at b1
      exact b1
    refine mj_W.run (mj_R_mo _ _) 40 ?_
    refine hn_gi (fk := 55) (v := ((u + 1 : Nat) : Int)) (List.cons_ne_nil _ _) rfl rfl rfl hm S5.1.2.2.1 ?_
    refine Or.inl ⟨⟨by show (-2147483648 : Int) ≤ ((u + 1 : Nat) : Int) - 1; omega, by show ((u + 1 : Nat) : Int) - 1 < (2147483648 : Int); omega⟩, ?_⟩
    refine hn_pi (fk := 55) (List.cons_ne_nil _ _) rfl rfl rfl hm (fun q => by cases q) ?_
    refine hn_gi (fk := 56) (List.cons_ne_nil _ _) rfl rfl rfl hm rfl ?_
    refine Or.inr (fun z hz _ => ?_)
    refine hn_pi (fk := 56) (List.cons_ne_nil _ _) rfl rfl rfl hm (fun q => by cases q) ?_
    refine ⟨List.cons_ne_nil _ _, 1012, 0, hm, rfl, Nat.le_of_ble_eq_true rfl, Nat.zero_le _, Nat.zero_le _, ?_⟩
    obtain ⟨S7, F7⟩ := fin _ z (show ((u + 1 : Nat) : Int) - 1 = _ by omega) hz
    exact r_next hm S7.1.2.1 (fun M8 i8 f8 => ⟨rfl, fun _ => Or.inr rfl, hQ1 M8 u c2 1 B2 (S7.fr f8 i8 (by decide)) (Or.inr ⟨rfl, h1, by omega⟩) (F7.tr (hn_up f8 (by decide)))⟩)
  have P44 : ∀ (M3 : mj_M) (t1 c1 cb sb : Nat), hn_Q G M3 m rd sk t1 c1 (B + 1) o 1 B → t1 ≤ t → c1 + t1 = c + t → ab_frm hn_WS G M M3 → mj_W sx_ms (mj_R mj_tab (d + 2)) mt_X12_behind.2.2.2.2.1 Q (mt_X12_behind.2.2.2.2.1.drop 44) [some (.inr (.inr (some m)))] [] G M3 cb sb := by
    intro M3 t1 c1 cb sb S3 h1 h2 F3
    refine mj_W.run (mj_R_mo _ _) 40 ?_
    refine ⟨List.cons_ne_nil _ _, 1012, 0, hm, rfl, Nat.le_of_ble_eq_true rfl, Nat.zero_le _, Nat.zero_le _, ?_⟩
    refine r_joins (t := t1) (c := c1) (by rw [S3.2.2.2]; exact S3.1) (by omega) (fun M4 t2 c2 J4 g2 g3 f4 g5 => ?_)
    have S4 : hn_Q G M4 m rd sk t2 c2 (hn_b (hn_f M3 sk) t2 + 1) o 1 (hn_b (hn_f M3 sk) t2) := S3.wr J4 f4 rfl
    have F4 : ab_frm hn_WS G M M4 := F3.tr (hn_up f4 (by decide))
    refine ⟨List.cons_ne_nil _ _, 1012, 0, hm, rfl, Nat.le_of_ble_eq_true rfl, Nat.zero_le _, Nat.zero_le _, ?_⟩
    refine r_isSign hm S4.1.2.1 ⟨by decide, by decide⟩ (fun M5 p i5 f5 hp => ?_)
    have S5 := S4.fr f5 i5 (by decide)
    have F5 : ab_frm hn_WS G M M5 := F4.tr (hn_up f5 (by decide))
    refine ⟨fun c1 => mj_W.stay (mj_R_mo _ _) _ (P54 M5 _ _ i5 F5), fun c1 => ?_⟩
    refine hn_gi (fk := 55) (v := (t2 : Int)) (List.cons_ne_nil _ _) rfl rfl rfl hm S5.1.2.2.1 ?_
    refine ⟨fun c2 => ?_, fun c2 => mj_W.stay (mj_R_mo _ _) _ (P54 M5 _ _ i5 F5)⟩
    have c2 : (t2 : Int) ≠ 0 := c2
    cases t2 with
    | zero => exact absurd rfl c2
    | succ u =>
      have e : M5.1 sk u = M3.1 sk u := ((f4.tr (hn_up f5 (by decide))) sk u (by rw [hsk]; exact hn_nt (by decide))).1
      exact mj_W.stay (mj_R_mo _ _) _ (P58 M5 u _ _ _ _ S5 (by rw [e]; exact g5 rfl u rfl) (by omega) (by omega) F5)
  refine ⟨Nat.le_of_ble_eq_true rfl, mj_W.run (mj_R_mo _ _) 40 ?_⟩
  refine ⟨List.cons_ne_nil _ _, 1012, 0, hm, rfl, Nat.le_of_ble_eq_true rfl, Nat.zero_le _, Nat.zero_le _, ?_⟩
  refine r_nots (h := B + 1) (by omega) hS.1 (by omega) (fun M1 t1 c1 J1 g2 g3 f1 g5 => ?_)
  have S1 : hn_Q G M1 m rd sk t1 c1 (B + 1) o 1 B := hS.wr J1 f1 (g5.trans hS.2.2.2)
  have F1 : ab_frm hn_WS G M M1 := hn_up f1 (by decide)
  refine ⟨List.cons_ne_nil _ _, 1012, 0, hm, rfl, Nat.le_of_ble_eq_true rfl, Nat.zero_le _, Nat.zero_le _, ?_⟩
  refine r_isWord hm S1.1.2.1 (fun M2 p i2 f2 hp => ?_)
  have S2 := S1.fr f2 i2 (by decide)
  have F2 : ab_frm hn_WS G M M2 := F1.tr (hn_up f2 (by decide))
  refine ⟨fun c1 => mj_W.stay (mj_R_mo _ _) _ (P10 M2 t1 _ _ _ S2 g2 g3 F2), fun c1 => ?_⟩
  refine ⟨List.cons_ne_nil _ _, 1012, 0, hm, rfl, Nat.le_of_ble_eq_true rfl, Nat.zero_le _, Nat.zero_le _, ?_⟩
  refine r_isWord hm i2 (fun M3 p3 i3 f3 hp3 => ?_)
  have S3 := S2.fr f3 i3 (by decide)
  have F3 : ab_frm hn_WS G M M3 := F2.tr (hn_up f3 (by decide))
  exact ⟨fun c1 => mj_W.stay (mj_R_mo _ _) _ (P44 M3 t1 _ _ _ S3 g2 g3 F3), fun c1 => mj_W.stay (mj_R_mo _ _) _ (P10 M3 t1 _ _ _ S3 g2 g3 F3)⟩
