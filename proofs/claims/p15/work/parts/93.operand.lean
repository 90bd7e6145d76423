/-! ===== by hand: operand of the reference ===== -/
/-- sentence's state: the stack's top, codes, the height, ones, isWhole, binary words on the stack -/
def hn_Q (G : mj_G) (M : mj_M) (m rd sk t c h o b B : Nat) : Prop := hn_J G M m rd sk t c h ∧ M.1 m 54 = (o : Int) ∧ M.1 m 57 = (b : Int) ∧ hn_b (hn_f M sk) t = B
abbrev hn_WS : List (Nat × Nat × Nat) := [(1012, 4, 4), (1012, 11, 17), (1012, 53, 57), (53100, 0, 134), (68100, 0, 44)]
theorem hn_Q.fr {W : List (Nat × Nat × Nat)} {G : mj_G} {M M' : mj_M} {m rd sk t c h o b B : Nat} (hq : hn_Q G M m rd sk t c h o b B) (hf : ab_frm W G M M') (hI : ab_Inv G M') (hw : W.all (fun q => !(Nat.beq q.1 53100) && (!(Nat.beq q.1 68100) && (!(Nat.beq q.1 1012) || (Nat.blt q.2.2 8 || (Nat.blt 8 q.2.1 && (Nat.blt q.2.2 52 || Nat.blt 57 q.2.1)))))) = true) : hn_Q G M' m rd sk t c h o b B := by
  have n1 : ∀ k, k = 8 ∨ (52 ≤ k ∧ k ≤ 57) → ¬ ab_cov W 1012 k := by
    rintro k hk ⟨q, hq, q1, q2, q3⟩
    have h1 := List.all_eq_true.mp hw q hq
    rw [q1] at h1
    obtain ⟨-, h1⟩ := sx_nd h1
    obtain ⟨-, h1⟩ := sx_nd h1
    have h1 : (Nat.blt q.2.2 8 || (Nat.blt 8 q.2.1 && (Nat.blt q.2.2 52 || Nat.blt 57 q.2.1))) = true := h1
    rcases Bool.or_eq_true_iff.mp h1 with h1 | h1
    · have := sx_blt h1; omega
    · obtain ⟨h2, h1⟩ := sx_nd h1
      have := sx_blt h2
      rcases Bool.or_eq_true_iff.mp h1 with h1 | h1
      · have := sx_blt h1; omega
      · have := sx_blt h1; omega
  have n2 : ∀ k, ¬ ab_cov W 53100 k := by
    rintro k ⟨q, hq, q1, -, -⟩
    have h1 := List.all_eq_true.mp hw q hq
    rw [q1] at h1
    cases h1
  have n3 : ∀ k, ¬ ab_cov W 68100 k := by
    rintro k ⟨q, hq, q1, -, -⟩
    have h1 := List.all_eq_true.mp hw q hq
    rw [q1] at h1
    cases h1
  obtain ⟨⟨hR, -, h55, h53, hk⟩, h54, h57, hb⟩ := hq
  have hm := hR.1
  have g : ∀ k, k = 8 ∨ (52 ≤ k ∧ k ≤ 57) → M'.1 m k = M.1 m k := fun k h => (hf m k (by rw [hm]; exact n1 k h)).1
  have gr : ∀ k, M'.1 rd k = M.1 rd k := fun k => (hf rd k (by rw [hR.2.2.1]; exact n2 k)).1
  have gk : ∀ k, M'.1 sk k = M.1 sk k := fun k => (hf sk k (by rw [hR.2.2.2.2]; exact n3 k)).1
  exact ⟨⟨hR.fr hf (n1 8 (Or.inl rfl)) (n1 52 (Or.inr (by decide))), hI, (g 55 (Or.inr (by decide))).trans h55, (g 53 (Or.inr (by decide))).trans h53, hk.cg (fun j _ => (gr _).symm)⟩, (g 54 (Or.inr (by decide))).trans h54, (g 57 (Or.inr (by decide))).trans h57, (hn_b.cg (fun j _ => gk j)).trans hb⟩
/-- an int of the reference itself is written -/
theorem hn_Q.mi {G : mj_G} {M : mj_M} {m rd sk : Nat} (hm : G m = (1012, 0)) (hI : ab_Inv G M) {k : Nat} {v : Int} (hv : mj_in v) (hk : 53 ≤ k ∧ k ≤ 56) : ab_Inv G (mj_p0 M m k v) := hI.p0 (by rw [hm]; exact hn_ci hv.1 hv.2 hk)
theorem hn_fm {G : mj_G} {M0 M : mj_M} {m : Nat} (hm : G m = (1012, 0)) {k : Nat} {v : Int} (hf : ab_frm hn_WS G M0 M) (hk : 53 ≤ k ∧ k ≤ 57) : ab_frm hn_WS G M0 (mj_p0 M m k v) := hn_f0 hf ⟨(1012, 53, 57), by decide, by rw [hm], hk.1, hk.2⟩
set_option maxRecDepth 100000 in
theorem r_operand {d m rd sk t c o B : Nat} {G : mj_G} {M : mj_M} {Q : mj_P} (hS : hn_Q G M m rd sk t c B o 0 B) (ho : o ≤ 20) (hto : t ≤ o) (hct : c + t ≤ 2 * o)
    (hQ0 : ∀ M', ab_Inv G M' → ab_frm hn_WS G M M' → Q (some (.inl 0)) G M')
    (hQ1 : ∀ M' t' c' b', hn_Q G M' m rd sk t' c' (B + b') (o + 1) b' B → o ≤ 19 → ((t' = t + 1 ∧ b' = 0 ∧ c' = c) ∨ (t' = t ∧ b' = 1 ∧ c' = c + 1)) → ab_frm hn_WS G M M' → Q (some (.inl 1)) G M') : mj_R mj_tab (d + 3) 222 [.inr (.inr (some m))] G M Q := by
  have hm : G m = (1012, 0) := hS.1.1.1
  have hrd : G rd = (53100, 135) := hS.1.1.2.2.1
  have hsk : G sk = (68100, 45) := hS.1.1.2.2.2.2
  have nr : m ≠ rd := hn_ne hm hrd (by decide)
  have nk : m ≠ sk := hn_ne hm hsk (by decide)
  have nkr : rd ≠ sk := hn_ne hrd hsk (by decide)
  refine ⟨Nat.le_of_ble_eq_true rfl, mj_W.run (mj_R_mo _ _) 40 ?_⟩
  refine ⟨List.cons_ne_nil _ _, 1012, 0, hm, rfl, by decide, Nat.zero_le _, Nat.zero_le _, ?_⟩
  refine r_isWord hm hS.1.2.1 (fun M1 p i1 f1 hp => ?_)
  have S1 := hS.fr f1 i1 (by decide)
  have F1 : ab_frm hn_WS G M M1 := hn_up f1 (by decide)
  refine ⟨List.cons_ne_nil _ _, 1012, 0, hm, rfl, by decide, Nat.zero_le _, Nat.zero_le _, ?_⟩
  refine r_isSign hm i1 ⟨by decide, by decide⟩ (fun M2 u i2 f2 hu => ?_)
  have S2 := S1.fr f2 i2 (by decide)
  have F2 : ab_frm hn_WS G M M2 := F1.tr (hn_up f2 (by decide))
  refine ⟨List.cons_ne_nil _ _, 1012, 0, hm, rfl, by decide, Nat.zero_le _, Nat.zero_le _, ?_⟩
  refine r_leafOf hm i2 (fun M3 l i3 f3 hl => ?_)
  have S3 := S2.fr f3 i3 (by decide)
  have F3 : ab_frm hn_WS G M M3 := F2.tr (hn_up f3 (by decide))
  clear S1 S2 F1 F2 f1 f2 f3
  have P94 : ∀ (M5 : mj_M) (q : Option mj_V) cb sb, ab_Inv G M5 → ab_frm hn_WS G M M5 → mj_W sx_ms (mj_R mj_tab (d + 2)) mt_X12_operand.2.2.2.2.1 Q (mt_X12_operand.2.2.2.2.1.drop 94) [some (.inr (.inr (some m))), some (.inl p), some (.inl u), some (.inl l), q] [] G M5 cb sb := by
    intro M5 q cb sb I5 F5
    refine mj_W.run (mj_R_mo _ _) 10 ?_
    refine ⟨List.cons_ne_nil _ _, 1012, 0, hm, rfl, by decide, Nat.zero_le _, Nat.zero_le _, ?_⟩
    exact r_bad hm I5 ⟨by decide, by decide⟩ (fun Mb ib fb => ⟨rfl, fun _ => Or.inl rfl, hQ0 Mb ib ((F5).tr (hn_up fb (by decide)))⟩)
  have P98 : ∀ (M5 : mj_M) cb sb, hn_Q G M5 m rd sk t c B (o + 1) 1 B → o ≤ 19 → ab_frm hn_WS G M M5 → mj_W sx_ms (mj_R mj_tab (d + 2)) mt_X12_operand.2.2.2.2.1 Q (mt_X12_operand.2.2.2.2.1.drop 98) [some (.inr (.inr (some m))), some (.inl p), some (.inl u), some (.inl l), none] [] G M5 cb sb := by
    intro M5 cb sb S5 o19 F5
    refine mj_W.run (mj_R_mo _ _) 40 ?_
    refine hn_gi (fk := 14) (v := M5.1 m 14) (List.cons_ne_nil _ _) rfl rfl rfl hm rfl ?_
    refine ⟨List.cons_ne_nil _ _, 1012, 0, hm, rfl, by decide, Nat.zero_le _, Nat.zero_le _, ?_⟩
    refine r_next hm S5.1.2.1 (fun M6 i6 f6 => ?_)
    have S6 := S5.fr f6 i6 (by decide)
    have F6 : ab_frm hn_WS G M M6 := F5.tr (hn_up f6 (by decide))
    refine hn_gi (fk := 11) (v := M6.1 m 11) (List.cons_ne_nil _ _) rfl rfl rfl hm rfl ?_
    refine ⟨fun c1 => ?_, fun c1 => ?_⟩
    · refine hn_gi (fk := 14) (v := M6.1 m 14) (List.cons_ne_nil _ _) rfl rfl rfl hm rfl ?_
      refine ⟨List.cons_ne_nil _ _, 1012, 0, hm, rfl, by decide, Nat.zero_le _, Nat.zero_le _, ?_⟩
      refine r_code (rd := rd) (sk := sk) (c := c) S6.1.1 i6 S6.1.2.2.2.1 (by omega) ⟨by omega, by omega⟩ (S5.1.2.1.mj m 14) (i6.mj m 14) (fun M7 i7 f7 k53 k55 _ kx kb => ?_)
      have S7 : hn_Q G M7 m rd sk t (c + 1) (B + 1) (o + 1) 1 B := ⟨⟨S6.1.1.fr f7 (hn_nc (by decide)) (hn_nc (by decide)), i7, k55.trans S6.1.2.2.1, k53, B, S6.1.2.2.2.2.cg (fun j hj => (kb _ (by omega)).symm), Or.inr (Or.inr (by
        have kx : M7.1 rd (3 * c) = l := kx
        show M7.1 rd (3 * c) ≠ 10 ∧ M7.1 rd (3 * c) ≠ 11 ∧ M7.1 rd (3 * c) ≠ 12 ∧ B + 1 = B + 1
        rw [kx]
        exact ⟨by omega, by omega, by omega, rfl⟩))⟩, (f7 m 54 (by rw [hm]; exact hn_nc (by decide))).1.trans S6.2.1, (f7 m 57 (by rw [hm]; exact hn_nc (by decide))).1.trans S6.2.2.1, (hn_b.cg (fun j _ => (f7 sk j (by rw [hsk]; exact hn_nt (by decide))).1)).trans S6.2.2.2⟩
      have F7 : ab_frm hn_WS G M M7 := F6.tr (hn_up f7 (by decide))
      refine ⟨List.cons_ne_nil _ _, 1012, 0, hm, rfl, by decide, Nat.zero_le _, Nat.zero_le _, ?_⟩
      exact r_next hm i7 (fun M8 i8 f8 => ⟨rfl, fun _ => Or.inr rfl, hQ1 M8 t (c + 1) 1 (S7.fr f8 i8 (by decide)) o19 (Or.inr ⟨rfl, rfl, rfl⟩) (F7.tr (hn_up f8 (by decide)))⟩)
    · refine ⟨List.cons_ne_nil _ _, 1012, 0, hm, rfl, by decide, Nat.zero_le _, Nat.zero_le _, ?_⟩
      exact r_bad hm i6 ⟨by decide, by decide⟩ (fun Mb ib fb => ⟨rfl, fun _ => Or.inl rfl, hQ0 Mb ib (F6.tr (hn_up fb (by decide)))⟩)
  have P69 : ∀ (M4 : mj_M) cb sb, hn_Q G M4 m rd sk t c B (o + 1) 0 B → o ≤ 19 → ab_frm hn_WS G M M4 → mj_W sx_ms (mj_R mj_tab (d + 2)) mt_X12_operand.2.2.2.2.1 Q (mt_X12_operand.2.2.2.2.1.drop 69) [some (.inr (.inr (some m))), some (.inl p), some (.inl u), some (.inl l), none] [] G M4 cb sb := by
    intro M4 cb sb S4 o19 F4
    refine mj_W.run (mj_R_mo _ _) 40 ?_
    refine hn_pi (fk := 57) (List.cons_ne_nil _ _) rfl rfl rfl hm (fun _ => Or.inr rfl) ?_
    have i5 : ab_Inv G (mj_p0 M4 m 57 1) := S4.1.2.1.p0 (by rw [hm]; exact ⟨by decide, by decide⟩)
    have F5 : ab_frm hn_WS G M (mj_p0 M4 m 57 1) := hn_fm hm F4 (by decide)
    have S5 : hn_Q G (mj_p0 M4 m 57 1) m rd sk t c B (o + 1) 1 B := ⟨⟨S4.1.1, i5, (hn_n (Or.inr (by decide))).trans S4.1.2.2.1, (hn_n (Or.inr (by decide))).trans S4.1.2.2.2.1, S4.1.2.2.2.2.cg (fun j _ => (hn_n (Or.inl nr.symm)).symm)⟩, (hn_n (Or.inr (by decide))).trans S4.2.1, hn_s, (hn_b.cg (fun j _ => hn_n (Or.inl nk.symm))).trans S4.2.2.2⟩
    refine ⟨fun c1 => ?_, fun c1 => ?_⟩
    · refine hn_gi (fk := 11) (v := (mj_p0 M4 m 57 1).1 m 11) (List.cons_ne_nil _ _) rfl rfl rfl hm rfl ?_
      refine ⟨fun c2 => mj_W.stay (mj_R_mo _ _) _ (P94 _ _ _ _ i5 F5), fun c2 => ?_⟩
      refine hn_gi (fk := 14) (v := (mj_p0 M4 m 57 1).1 m 14) (List.cons_ne_nil _ _) rfl rfl rfl hm rfl ?_
      refine ⟨fun c3 => mj_W.stay (mj_R_mo _ _) _ (P94 _ _ _ _ i5 F5), fun c3 => ?_⟩
      refine hn_gi (fk := 14) (v := (mj_p0 M4 m 57 1).1 m 14) (List.cons_ne_nil _ _) rfl rfl rfl hm rfl ?_
      exact ⟨fun c4 => mj_W.stay (mj_R_mo _ _) _ (P98 _ _ _ S5 o19 F5), fun c4 => mj_W.stay (mj_R_mo _ _) _ (P94 _ _ _ _ i5 F5)⟩
    · refine ⟨List.cons_ne_nil _ _, 1012, 0, hm, rfl, by decide, Nat.zero_le _, Nat.zero_le _, ?_⟩
      refine r_code (rd := rd) (sk := sk) (c := c) S5.1.1 i5 S5.1.2.2.2.1 (by omega) ⟨by omega, by omega⟩ ⟨by decide, by decide⟩ ⟨by decide, by decide⟩ (fun M7 i7 f7 k53 k55 _ kx kb => ?_)
      have S7 : hn_Q G M7 m rd sk t (c + 1) (B + 1) (o + 1) 1 B := ⟨⟨S5.1.1.fr f7 (hn_nc (by decide)) (hn_nc (by decide)), i7, k55.trans S5.1.2.2.1, k53, B, S5.1.2.2.2.2.cg (fun j hj => (kb _ (by omega)).symm), Or.inr (Or.inr (by
        have kx : M7.1 rd (3 * c) = l := kx
        show M7.1 rd (3 * c) ≠ 10 ∧ M7.1 rd (3 * c) ≠ 11 ∧ M7.1 rd (3 * c) ≠ 12 ∧ B + 1 = B + 1
        rw [kx]
        exact ⟨by omega, by omega, by omega, rfl⟩))⟩, (f7 m 54 (by rw [hm]; exact hn_nc (by decide))).1.trans S5.2.1, (f7 m 57 (by rw [hm]; exact hn_nc (by decide))).1.trans S5.2.2.1, (hn_b.cg (fun j _ => (f7 sk j (by rw [hsk]; exact hn_nt (by decide))).1)).trans S5.2.2.2⟩
      exact ⟨rfl, fun _ => Or.inr rfl, hQ1 M7 t (c + 1) 1 S7 o19 (Or.inr ⟨rfl, rfl, rfl⟩) (F5.tr (hn_up f7 (by decide)))⟩
  have P54 : ∀ (M4 : mj_M) (v : Int) cb sb, (v = 10 ∨ v = 13) → hn_Q G M4 m rd sk t c B (o + 1) 0 B → o ≤ 19 → ab_frm hn_WS G M M4 → mj_W sx_ms (mj_R mj_tab (d + 2)) mt_X12_operand.2.2.2.2.1 Q (mt_X12_operand.2.2.2.2.1.drop 54) [some (.inr (.inr (some m))), some (.inl p), some (.inl u), some (.inl l), none] [.inl v, .inl (t : Int), .inr (.inr (some sk))] G M4 cb sb := by
    intro M4 v cb sb hv S4 o19 F4
    have fin : ∀ (j : Nat) (T z : Int), j = t → T = ((t + 1 : Nat) : Int) → mj_in z → Q (some (.inl 1)) G (mj_p0 (mj_p0 (mj_p0 M4 sk j v) m 55 T) m 56 z) := by
      intro j T z e1 e2 hz
      subst e1 e2
      have i5 : ab_Inv G (mj_p0 M4 sk j v) := S4.1.2.1.p0 (by rw [hsk]; rcases hv with rfl | rfl <;> exact ⟨(by decide : (-2147483648 : Int) ≤ _), (by decide : _ ≤ (2147483647 : Int))⟩)
      have i6 := hn_Q.mi (rd := rd) (sk := sk) hm i5 (k := 55) (v := ((j + 1 : Nat) : Int)) ⟨by omega, by omega⟩ (by decide)
      have i7 := hn_Q.mi (rd := rd) (sk := sk) hm i6 (k := 56) hz (by decide)
      have F5 : ab_frm hn_WS G M (mj_p0 M4 sk j v) := hn_f0 F4 ⟨(68100, 0, 44), by decide, by rw [hsk], Nat.zero_le _, by show j ≤ 44; omega⟩
      have qm : ∀ k, k ≠ 55 → k ≠ 56 → (mj_p0 (mj_p0 (mj_p0 M4 sk j v) m 55 ((j + 1 : Nat) : Int)) m 56 z).1 m k = M4.1 m k := fun k h1 h2 => (hn_n (Or.inr h2)).trans ((hn_n (Or.inr h1)).trans (hn_n (Or.inl nk)))
      have qr : ∀ k, (mj_p0 (mj_p0 (mj_p0 M4 sk j v) m 55 ((j + 1 : Nat) : Int)) m 56 z).1 rd k = M4.1 rd k := fun k => (hn_n (Or.inl nr.symm)).trans ((hn_n (Or.inl nr.symm)).trans (hn_n (Or.inl nkr)))
      have qk : ∀ k, (mj_p0 (mj_p0 (mj_p0 M4 sk j v) m 55 ((j + 1 : Nat) : Int)) m 56 z).1 sk k = (mj_p0 M4 sk j v).1 sk k := fun k => (hn_n (Or.inl nk.symm)).trans (hn_n (Or.inl nk.symm))
      refine hQ1 _ (j + 1) c 0 ⟨⟨S4.1.1, i7, (hn_n (Or.inr (by decide))).trans hn_s, (qm 53 (by decide) (by decide)).trans S4.1.2.2.2.1, S4.1.2.2.2.2.cg (fun j _ => (qr _).symm)⟩, (qm 54 (by decide) (by decide)).trans S4.2.1, (qm 57 (by decide) (by decide)).trans S4.2.2.1, ?_⟩ o19 (Or.inl ⟨rfl, rfl, rfl⟩) (hn_fm hm (hn_fm hm F5 (by decide)) (by decide))
      have b1 := S4.2.2.2
      have b2 : hn_b (hn_f (mj_p0 (mj_p0 (mj_p0 M4 sk j v) m 55 ((j + 1 : Nat) : Int)) m 56 z) sk) j = hn_b (hn_f M4 sk) j := hn_b.cg (fun i hi => (qk i).trans (hn_n (Or.inr (by omega))))
      show hn_b (hn_f (mj_p0 (mj_p0 (mj_p0 M4 sk j v) m 55 ((j + 1 : Nat) : Int)) m 56 z) sk) j + (if (mj_p0 (mj_p0 (mj_p0 M4 sk j v) m 55 ((j + 1 : Nat) : Int)) m 56 z).1 sk j = 11 ∨ (mj_p0 (mj_p0 (mj_p0 M4 sk j v) m 55 ((j + 1 : Nat) : Int)) m 56 z).1 sk j = 12 then 1 else 0) = B
      rw [b2, b1, qk, hn_s, if_neg (by omega)]
      rfl
    refine mj_W.run (mj_R_mo _ _) 40 ?_
    refine ⟨68100, 45, hsk, rfl, by decide, by show (0 : Int) ≤ (t : Int); omega, by show (t : Int) < ((45 : Nat) : Int); omega, ?_⟩
    refine hn_gi (fk := 55) (v := (t : Int)) (List.cons_ne_nil _ _) rfl rfl rfl hm ((hn_n (Or.inl nk)).trans S4.1.2.2.1) ?_
    refine Or.inl ⟨⟨by show (-2147483648 : Int) ≤ (t : Int) + 1; omega, by show (t : Int) + 1 < (2147483648 : Int); omega⟩, ?_⟩
    refine hn_pi (fk := 55) (List.cons_ne_nil _ _) rfl rfl rfl hm (fun q => by cases q) ?_
    refine hn_gi (fk := 56) (List.cons_ne_nil _ _) rfl rfl rfl hm rfl ?_
    refine Or.inr (fun z hz _ => ?_)
    refine hn_pi (fk := 56) (List.cons_ne_nil _ _) rfl rfl rfl hm (fun q => by cases q) ?_
    exact ⟨rfl, fun _ => Or.inr rfl, fin _ _ _ (by show ((t : Int)).toNat = t; omega) (by show (t : Int) + 1 = _; omega) hz⟩
  have P45 : ∀ (M4 : mj_M) cb sb, hn_Q G M4 m rd sk t c B (o + 1) 0 B → o ≤ 19 → ab_frm hn_WS G M M4 → mj_W sx_ms (mj_R mj_tab (d + 2)) mt_X12_operand.2.2.2.2.1 Q (mt_X12_operand.2.2.2.2.1.drop 45) [some (.inr (.inr (some m))), some (.inl p), some (.inl u), some (.inl l), none] [] G M4 cb sb := by
    intro M4 cb sb S4 o19 F4
    refine mj_W.run (mj_R_mo _ _) 40 ?_
    refine hn_gr (fk := 52) (List.cons_ne_nil _ _) rfl rfl rfl hm S4.1.1.2.2.2.1 ?_
    refine hn_gi (fk := 55) (v := (t : Int)) (List.cons_ne_nil _ _) rfl rfl rfl hm S4.1.2.2.1 ?_
    exact ⟨fun c1 => mj_W.stay (mj_R_mo _ _) 33 (P54 M4 13 _ _ (Or.inr rfl) S4 o19 F4), fun c1 => mj_W.stay (mj_R_mo _ _) 32 (P54 M4 10 _ _ (Or.inl rfl) S4 o19 F4)⟩
  have P33 : ∀ cb sb, o ≠ 20 → mj_W sx_ms (mj_R mj_tab (d + 2)) mt_X12_operand.2.2.2.2.1 Q (mt_X12_operand.2.2.2.2.1.drop 33) [some (.inr (.inr (some m))), some (.inl p), some (.inl u), some (.inl l), none] [] G M3 cb sb := by
    intro cb sb o20
    refine mj_W.run (mj_R_mo _ _) 40 ?_
    refine hn_gi (fk := 54) (v := (o : Int)) (List.cons_ne_nil _ _) rfl rfl rfl hm S3.2.1 ?_
    refine Or.inl ⟨⟨by show (-2147483648 : Int) ≤ (o : Int) + 1; omega, by show (o : Int) + 1 < (2147483648 : Int); omega⟩, ?_⟩
    refine hn_pi (fk := 54) (List.cons_ne_nil _ _) rfl rfl rfl hm (fun q => by cases q) ?_
    have i4 : ab_Inv G (mj_p0 M3 m 54 ((o : Int) + 1)) := hn_Q.mi (rd := rd) (sk := sk) hm i3 ⟨by omega, by omega⟩ (by decide)
    have S4 : hn_Q G (mj_p0 M3 m 54 ((o : Int) + 1)) m rd sk t c B (o + 1) 0 B := ⟨⟨S3.1.1, i4, (hn_n (Or.inr (by decide))).trans S3.1.2.2.1, (hn_n (Or.inr (by decide))).trans S3.1.2.2.2.1, S3.1.2.2.2.2.cg (fun j _ => (hn_n (Or.inl nr.symm)).symm)⟩, hn_s.trans (by omega), (hn_n (Or.inr (by decide))).trans S3.2.2.1, (hn_b.cg (fun j _ => hn_n (Or.inl nk.symm))).trans S3.2.2.2⟩
    have F4 : ab_frm hn_WS G M (mj_p0 M3 m 54 ((o : Int) + 1)) := hn_fm hm F3 (by decide)
    refine ⟨List.cons_ne_nil _ _, 1012, 0, hm, rfl, by decide, Nat.zero_le _, Nat.zero_le _, ?_⟩
    refine r_next hm i4 (fun M5 i5 f5 => ?_)
    have S5 := S4.fr f5 i5 (by decide)
    have F5 : ab_frm hn_WS G M M5 := F4.tr (hn_up f5 (by decide))
    exact ⟨fun c1 => mj_W.stay (mj_R_mo _ _) _ (P45 M5 _ _ S5 (by omega) F5), fun c1 => ⟨fun c2 => mj_W.stay (mj_R_mo _ _) _ (P69 M5 _ _ S5 (by omega) F5), fun c2 => mj_W.stay (mj_R_mo _ _) _ (P45 M5 _ _ S5 (by omega) F5)⟩⟩
  have P29 : ∀ cb sb, mj_W sx_ms (mj_R mj_tab (d + 2)) mt_X12_operand.2.2.2.2.1 Q (mt_X12_operand.2.2.2.2.1.drop 29) [some (.inr (.inr (some m))), some (.inl p), some (.inl u), some (.inl l), none] [] G M3 cb sb := by
    intro cb sb
    refine mj_W.run (mj_R_mo _ _) 10 ?_
    refine ⟨List.cons_ne_nil _ _, 1012, 0, hm, rfl, by decide, Nat.zero_le _, Nat.zero_le _, ?_⟩
    exact r_bad hm i3 ⟨by decide, by decide⟩ (fun Mb ib fb => ⟨rfl, fun _ => Or.inl rfl, hQ0 Mb ib ((F3).tr (hn_up fb (by decide)))⟩)
  have P21 : ∀ cb sb, mj_W sx_ms (mj_R mj_tab (d + 2)) mt_X12_operand.2.2.2.2.1 Q (mt_X12_operand.2.2.2.2.1.drop 21) [some (.inr (.inr (some m))), some (.inl p), some (.inl u), some (.inl l), none] [] G M3 cb sb := by
    intro cb sb
    refine mj_W.run (mj_R_mo _ _) 20 ?_
    refine hn_gi (fk := 54) (v := (o : Int)) (List.cons_ne_nil _ _) rfl rfl rfl hm S3.2.1 ?_
    refine ⟨fun c1 => mj_W.stay (mj_R_mo _ _) _ (P29 _ _), fun c1 => ?_⟩
    have c1 : ¬ (o : Int) = 20 := c1
    refine hn_gi (fk := 56) (List.cons_ne_nil _ _) rfl rfl rfl hm rfl ?_
    exact ⟨fun c2 => mj_W.stay (mj_R_mo _ _) _ (P33 _ _ (by omega)), fun c2 => mj_W.stay (mj_R_mo _ _) _ (P29 _ _)⟩
  refine ⟨fun c1 => mj_W.stay (mj_R_mo _ _) _ (P21 _ _), fun c1 => ⟨fun c2 => mj_W.stay (mj_R_mo _ _) _ (P21 _ _), fun c2 => ⟨fun c3 => mj_W.stay (mj_R_mo _ _) _ (P21 _ _), fun c3 => ?_⟩⟩⟩
  refine ⟨List.cons_ne_nil _ _, 1012, 0, hm, rfl, by decide, Nat.zero_le _, Nat.zero_le _, ?_⟩
  exact r_bad hm i3 ⟨by decide, by decide⟩ (fun Mb ib fb => ⟨rfl, fun _ => Or.inl rfl, hQ0 Mb ib ((F3).tr (hn_up fb (by decide)))⟩)
