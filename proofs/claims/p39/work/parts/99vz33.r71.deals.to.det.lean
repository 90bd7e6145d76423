section
/-! ===== CONTRACTS as told; the class reads them (laid by a program) ===== -/
def sp_dlet (T : Nat → Nat × Nat × Int × List Int × Nat) (nm : Nat → List Int) (c0 : Int) (R : Nat → Int) (q : Nat) (Kf : Int → Nat → Prop) (Ko : (Nat → Int) → Nat → Prop) : Prop := sp_num T 0 11 (rv_x T q) Kf ((((R (3 * ((T (rv_x T q)).2.2.1).toNat)) = 0 → sp_nam T (rv_x T (rv_x T q)) Kf (sp_find nm c0 (T (rv_x T (rv_x T q))).2.2.2.1 (fun r => ((r = -1 → Kf 3 (T (rv_x T (rv_x T q))).2.1) ∧ (¬ (r = -1) → (((T (rv_x T (rv_x T (rv_x T q)))).1 = 1 → sp_nam T (rv_x T (rv_x T (rv_x T q))) Kf (sp_find nm c0 (T (rv_x T (rv_x T (rv_x T q)))).2.2.2.1 (fun o => ((o = -1 → Kf 3 (T (rv_x T (rv_x T (rv_x T q)))).2.1) ∧ (¬ (o = -1) → ((o = r → Kf 3 (T (rv_x T (rv_x T (rv_x T q)))).2.1) ∧ (¬ (o = r) → sp_num T 0 999 (rv_x T (rv_x T (rv_x T (rv_x T q)))) Kf (Ko (rv_up (rv_up (rv_up R (3 * ((T (rv_x T q)).2.2.1).toNat) (r + 1)) (3 * ((T (rv_x T q)).2.2.1).toNat + 1) (o + 1)) (3 * ((T (rv_x T q)).2.2.1).toNat + 2) (T (rv_x T (rv_x T (rv_x T (rv_x T q))))).2.2.1) (rv_x T (rv_x T (rv_x T (rv_x T q)))))))))))) ∧ (¬ ((T (rv_x T (rv_x T (rv_x T q)))).1 = 1) → sp_num T 0 999 (rv_x T (rv_x T (rv_x T q))) Kf (Ko (rv_up (rv_up R (3 * ((T (rv_x T q)).2.2.1).toNat) (r + 1)) (3 * ((T (rv_x T q)).2.2.1).toNat + 2) (T (rv_x T (rv_x T (rv_x T q)))).2.2.1) (rv_x T (rv_x T (rv_x T q))))))))))) ∧ (¬ ((R (3 * ((T (rv_x T q)).2.2.1).toNat)) = 0) → Kf 3 (T (rv_x T q)).2.1)))
def sp_dsea (T : Nat → Nat × Nat × Int × List Int × Nat) (nm : Nat → List Int) (c0 : Int) (R : Nat → Int) (q : Nat) (Kf : Int → Nat → Prop) (Ko : (Nat → Int) → Nat → Prop) : Prop := sp_num T 0 11 (rv_x T q) Kf ((((R (3 * ((T (rv_x T q)).2.2.1).toNat)) = 0 → Ko (rv_up R (3 * ((T (rv_x T q)).2.2.1).toNat) 9) (rv_x T q)) ∧ (¬ ((R (3 * ((T (rv_x T q)).2.2.1).toNat)) = 0) → Kf 3 (T (rv_x T q)).2.1)))
/-- a row of CONTRACTS, of which the first token is read -/
def sp_deal (T : Nat → Nat × Nat × Int × List Int × Nat) (nm : Nat → List Int) (c0 : Int) (R : Nat → Int) (q : Nat) (Kf : Int → Nat → Prop) (Ko : (Nat → Int) → Nat → Prop) : Prop := (∀ j, j < 24 → (T q).1 = 1 → rv_rs.getD j [] = (T q).2.2.2.1 → ((j = 10 → sp_dlet T nm c0 R q Kf Ko) ∧ (j = 11 → sp_dsea T nm c0 R q Kf Ko) ∧ (j ≠ 10 → j ≠ 11 → Kf 1 (T q).2.1))) ∧ (¬ ((T q).1 = 1 ∧ ¬ rv_nam (T q).2.2.2.1) → Kf 1 (T q).2.1)
/-- rows to the end of a text; r have been read, T q is the token now -/
def sp_deals (T : Nat → Nat × Nat × Int × List Int × Nat) (nm : Nat → List Int) (c0 : Int) (Kf : Int → Nat → Prop) (Ko : (Nat → Int) → Nat → Prop) : Nat → (Nat → Int) → Nat → Nat → Prop
  | 0, _, _, _ => True
  | f + 1, R, r, q => ((T q).1 = 0 → Ko R r) ∧ ((T q).1 = 5 → Kf 1 (T q).2.1) ∧ ((T q).1 ≠ 0 → (T q).1 ≠ 5 → sp_deal T nm c0 R q Kf (fun R' q' => sp_sgn T 59 (rv_x T q') Kf (sp_deals T nm c0 Kf Ko f R' (r + 1) (rv_x T (rv_x T q')))))
theorem sp_dlet.mono {T : Nat → Nat × Nat × Int × List Int × Nat} {nm : Nat → List Int} {c0 : Int} {R : Nat → Int} {q : Nat} {Kf Kf' : Int → Nat → Prop} {Ko Ko' : (Nat → Int) → Nat → Prop} (h : sp_dlet T nm c0 R q Kf Ko) (hf : ∀ f a, Kf f a → Kf' f a) (ho : ∀ R q, Ko R q → Ko' R q) : sp_dlet T nm c0 R q Kf' Ko' := by
  unfold sp_dlet at *
  exact (h).mono hf (fun _ _ _ u1 => ⟨fun u2 => ((u1.1 u2)).mono hf (fun _ _ u3 => (u3).mono (fun ru4 _ _ _ u4 => ⟨fun u5 => hf _ _ (u4.1 u5), fun u5 => ⟨fun u7 => (((u4.2 u5).1 u7)).mono hf (fun _ _ u8 => (u8).mono (fun ru9 _ _ _ u9 => ⟨fun u10 => hf _ _ (u9.1 u10), fun u10 => ⟨fun u12 => hf _ _ ((u9.2 u10).1 u12), fun u12 => (((u9.2 u10).2 u12)).mono hf (fun _ _ _ u14 => ho _ _ u14)⟩⟩) (fun _ u9 => ⟨fun u16 => hf _ _ (u9.1 u16), fun u16 => ⟨fun u18 => hf _ _ ((u9.2 u16).1 u18), fun u18 => (((u9.2 u16).2 u18)).mono hf (fun _ _ _ u20 => ho _ _ u20)⟩⟩)), fun u7 => (((u4.2 u5).2 u7)).mono hf (fun _ _ _ u22 => ho _ _ u22)⟩⟩) (fun _ u4 => ⟨fun u24 => hf _ _ (u4.1 u24), fun u24 => ⟨fun u26 => (((u4.2 u24).1 u26)).mono hf (fun _ _ u27 => (u27).mono (fun ru28 _ _ _ u28 => ⟨fun u29 => hf _ _ (u28.1 u29), fun u29 => ⟨fun u31 => hf _ _ ((u28.2 u29).1 u31), fun u31 => (((u28.2 u29).2 u31)).mono hf (fun _ _ _ u33 => ho _ _ u33)⟩⟩) (fun _ u28 => ⟨fun u35 => hf _ _ (u28.1 u35), fun u35 => ⟨fun u37 => hf _ _ ((u28.2 u35).1 u37), fun u37 => (((u28.2 u35).2 u37)).mono hf (fun _ _ _ u39 => ho _ _ u39)⟩⟩)), fun u26 => (((u4.2 u24).2 u26)).mono hf (fun _ _ _ u41 => ho _ _ u41)⟩⟩)), fun u2 => hf _ _ (u1.2 u2)⟩)
theorem sp_dsea.mono {T : Nat → Nat × Nat × Int × List Int × Nat} {nm : Nat → List Int} {c0 : Int} {R : Nat → Int} {q : Nat} {Kf Kf' : Int → Nat → Prop} {Ko Ko' : (Nat → Int) → Nat → Prop} (h : sp_dsea T nm c0 R q Kf Ko) (hf : ∀ f a, Kf f a → Kf' f a) (ho : ∀ R q, Ko R q → Ko' R q) : sp_dsea T nm c0 R q Kf' Ko' := by
  unfold sp_dsea at *
  exact (h).mono hf (fun _ _ _ u44 => ⟨fun u45 => ho _ _ (u44.1 u45), fun u45 => hf _ _ (u44.2 u45)⟩)
theorem sp_deal.mono {T : Nat → Nat × Nat × Int × List Int × Nat} {nm : Nat → List Int} {c0 : Int} {R : Nat → Int} {q : Nat} {Kf Kf' : Int → Nat → Prop} {Ko Ko' : (Nat → Int) → Nat → Prop} (h : sp_deal T nm c0 R q Kf Ko) (hf : ∀ f a, Kf f a → Kf' f a) (ho : ∀ R q, Ko R q → Ko' R q) : sp_deal T nm c0 R q Kf' Ko' := ⟨fun j a b c => ⟨fun e => ((h.1 j a b c).1 e).mono hf ho, fun e => ((h.1 j a b c).2.1 e).mono hf ho, fun e e2 => hf _ _ ((h.1 j a b c).2.2 e e2)⟩, fun a => hf _ _ (h.2 a)⟩
theorem sp_deals.mono {T : Nat → Nat × Nat × Int × List Int × Nat} {nm : Nat → List Int} {c0 : Int} {Kf Kf' : Int → Nat → Prop} {Ko Ko' : (Nat → Int) → Nat → Prop} (hf : ∀ f a, Kf f a → Kf' f a) (ho : ∀ R r, Ko R r → Ko' R r) : ∀ (f : Nat) (R : Nat → Int) (r q : Nat), sp_deals T nm c0 Kf Ko f R r q → sp_deals T nm c0 Kf' Ko' f R r q
  | 0, _, _, _, _ => trivial
  | f + 1, R, r, q, h => ⟨fun e => ho _ _ (h.1 e), fun e => hf _ _ (h.2.1 e), fun e0 e5 => (h.2.2 e0 e5).mono hf (fun R' q' k => k.mono hf (fun _ k => sp_deals.mono hf ho f _ _ _ k))⟩
/-- what a CONTRACT of a month can be; the table of all -/
def rv_d3 (c0 a b c : Int) : Prop := (a = 0 ∧ b = 0 ∧ c = 0) ∨ (a = 9 ∧ b = 0 ∧ c = 0) ∨ (1 ≤ a ∧ a ≤ c0 ∧ 0 ≤ b ∧ b ≤ c0 ∧ b ≠ a ∧ 0 ≤ c ∧ c ≤ 999)
def rv_db (c0 : Int) (R : Nat → Int) : Prop := ∀ j, j < 12 → rv_d3 c0 (R (3 * j)) (R (3 * j + 1)) (R (3 * j + 2))
def rv_cn (R : Nat → Int) : Nat → Nat
  | 0 => 0
  | k + 1 => rv_cn R k + (if R (3 * k) = 0 then 0 else 1)
theorem rv_cn_le (R : Nat → Int) : ∀ k, rv_cn R k ≤ k
  | 0 => Nat.le_refl 0
  | k + 1 => by
    show rv_cn R k + (if R (3 * k) = 0 then 0 else 1) ≤ k + 1
    have := rv_cn_le R k
    split <;> omega
theorem rv_cn_lt {R : Nat → Int} {j : Nat} (h : R (3 * j) = 0) : ∀ k, j < k → rv_cn R k < k
  | 0, hj => absurd hj (Nat.not_lt_zero j)
  | k + 1, hj => by
    show rv_cn R k + (if R (3 * k) = 0 then 0 else 1) < k + 1
    by_cases c : j = k
    · have := rv_cn_le R k
      rw [← c, if_pos h]; rw [← c] at this; omega
    · have := rv_cn_lt h k (by omega)
      split <;> omega
theorem rv_cn_set {R R' : Nat → Int} {j : Nat} (e : ∀ k, k ≠ 3 * j → k ≠ 3 * j + 1 → k ≠ 3 * j + 2 → R' k = R k) (h0 : R (3 * j) = 0) (h1 : R' (3 * j) ≠ 0) : ∀ k, rv_cn R' k = rv_cn R k + (if j < k then 1 else 0)
  | 0 => rfl
  | k + 1 => by
    show rv_cn R' k + (if R' (3 * k) = 0 then 0 else 1) = rv_cn R k + (if R (3 * k) = 0 then 0 else 1) + (if j < k + 1 then 1 else 0)
    rw [rv_cn_set e h0 h1 k]
    by_cases c : j = k
    · rw [← c, if_neg h1, if_pos h0, if_neg (Nat.lt_irrefl j), if_pos (by omega)]
    · rw [e (3 * k) (by omega) (by omega) (by omega)]
      by_cases c2 : j < k
      · rw [if_pos c2, if_pos (show j < k + 1 by omega)]; omega
      · rw [if_neg c2, if_neg (show ¬ j < k + 1 by omega)]; omega
theorem rv_db.set {c0 : Int} {R R' : Nat → Int} {j : Nat} (h : rv_db c0 R) (e : ∀ k, k ≠ 3 * j → k ≠ 3 * j + 1 → k ≠ 3 * j + 2 → R' k = R k) (h1 : rv_d3 c0 (R' (3 * j)) (R' (3 * j + 1)) (R' (3 * j + 2))) : rv_db c0 R' := fun k hk => by
  by_cases c : k = j
  · rw [c]; exact h1
  · rw [e (3 * k) (by omega) (by omega) (by omega), e (3 * k + 1) (by omega) (by omega) (by omega), e (3 * k + 2) (by omega) (by omega) (by omega)]; exact h k hk
/-- R' is R but for month j, of which a, b, c are told -/
def rv_dt3 (R R' : Nat → Int) (j : Nat) (a b c : Int) : Prop := (∀ k, k ≠ 3 * j → k ≠ 3 * j + 1 → k ≠ 3 * j + 2 → R' k = R k) ∧ R' (3 * j) = a ∧ R' (3 * j + 1) = b ∧ R' (3 * j + 2) = c
theorem rv_dt3_3 {R : Nat → Int} {j : Nat} {a b c : Int} : rv_dt3 R (rv_up (rv_up (rv_up R (3 * j) a) (3 * j + 1) b) (3 * j + 2) c) j a b c := ⟨fun k k0 k1 k2 => (rv_up_n k2).trans ((rv_up_n k1).trans (rv_up_n k0)), (rv_up_n (by omega)).trans ((rv_up_n (by omega)).trans rv_up_s), (rv_up_n (by omega)).trans rv_up_s, rv_up_s⟩
theorem rv_dt3_2 {R : Nat → Int} {j : Nat} {a c : Int} (h : R (3 * j + 1) = 0) : rv_dt3 R (rv_up (rv_up R (3 * j) a) (3 * j + 2) c) j a 0 c := ⟨fun k k0 k1 k2 => (rv_up_n k2).trans (rv_up_n k0), (rv_up_n (by omega)).trans rv_up_s, (rv_up_n (by omega)).trans ((rv_up_n (by omega)).trans h), rv_up_s⟩
theorem rv_dt3_1 {R : Nat → Int} {j : Nat} {a : Int} (h : R (3 * j + 1) = 0) (h2 : R (3 * j + 2) = 0) : rv_dt3 R (rv_up R (3 * j) a) j a 0 0 := ⟨fun k k0 k1 k2 => rv_up_n k0, rv_up_s, (rv_up_n (by omega)).trans h, (rv_up_n (by omega)).trans h2⟩
theorem rv_db.z {c0 : Int} {R : Nat → Int} {j : Nat} (h : rv_db c0 R) (hj : j < 12) (h0 : R (3 * j) = 0) : R (3 * j + 1) = 0 ∧ R (3 * j + 2) = 0 := by
  rcases h j hj with ⟨-, a, b⟩ | ⟨a, -⟩ | ⟨a, -⟩
  · exact ⟨a, b⟩
  · exfalso; omega
  · exfalso; omega
/-- what the class tells of months, against the table -/
def rv_DR (M : mj_M) (fa sa ca : Nat) (R : Nat → Int) : Prop := ∀ j, j < 12 → M.1 fa j = R (3 * j) - 1 ∧ M.1 sa j = R (3 * j + 1) - 1 ∧ M.1 ca j = R (3 * j + 2)
def rv_dfo (dl fa sa ca : Nat) (M0 M : mj_M) : Prop := (∀ a, a ≠ dl → a ≠ fa → a ≠ sa → a ≠ ca → M.1 a = M0.1 a) ∧ M.2 = M0.2
theorem rv_dfo.refl {dl fa sa ca : Nat} {M0 : mj_M} : rv_dfo dl fa sa ca M0 M0 := ⟨fun _ _ _ _ _ => rfl, rfl⟩
theorem rv_dfo.trans {dl fa sa ca : Nat} {M0 M1 M2 : mj_M} (h1 : rv_dfo dl fa sa ca M0 M1) (h2 : rv_dfo dl fa sa ca M1 M2) : rv_dfo dl fa sa ca M0 M2 := ⟨fun a b1 b2 b3 b4 => (h2.1 a b1 b2 b3 b4).trans (h1.1 a b1 b2 b3 b4), h2.2.trans h1.2⟩
theorem rv_D.mv {G : mj_G} {M M' : mj_M} {dl fa sa ca : Nat} (h : rv_D G M dl fa sa ca) (e : M'.2 = M.2) : rv_D G M' dl fa sa ca := by unfold rv_D at *; rw [e]; exact h
theorem rv_dt3.eq {R R' : Nat → Int} {j : Nat} {a b c a' b' c' : Int} (h : rv_dt3 R R' j a b c) (ea : a = a') (eb : b = b') (ec : c = c') : rv_dt3 R R' j a' b' c' := by subst ea; subst eb; subst ec; exact h
theorem rv_DR.set {M M' : mj_M} {fa sa ca j : Nat} {R R' : Nat → Int} {a b c : Int} (h : rv_DR M fa sa ca R) (hd : rv_dt3 R R' j (a + 1) (b + 1) c) (e1 : M'.1 fa = rv_up (M.1 fa) j a) (e2 : M'.1 sa = rv_up (M.1 sa) j b) (e3 : M'.1 ca = rv_up (M.1 ca) j c) : rv_DR M' fa sa ca R' := fun k hk => by
  rw [e1, e2, e3]
  by_cases q : k = j
  · rw [q, rv_up_s, rv_up_s, rv_up_s, hd.2.1, hd.2.2.1, hd.2.2.2]; exact ⟨by omega, by omega, rfl⟩
  · rw [rv_up_n q, rv_up_n q, rv_up_n q, hd.1 _ (by omega) (by omega) (by omega), hd.1 _ (by omega) (by omega) (by omega), hd.1 _ (by omega) (by omega) (by omega)]; exact h k hk
theorem rv_AT.put {G : mj_G} {M0 : mj_M} {B : Nat → Int} {n lim tp bc pl na ta ba wa oa : Nat} {tr br : Nat → Nat} {T : Nat → Nat × Nat × Int × List Int × Nat} {a j : Nat} {v : Int} (hA : rv_AT G M0 B n lim tp bc pl na ta ba wa oa tr br T) (h : a ≠ bc) : rv_AT G (mj_p0 M0 a j v) B n lim tp bc pl na ta ba wa oa tr br T := by
  obtain ⟨⟨gtp, gbc, gpl, gna, gta, gba, gwa, goa, gtr, gbr, itr, ibr, r1, r2, r3, r4, r5, r6, r7, r8, rb, rw0, n1, n2, hIw⟩, hT⟩ := id hA
  exact ⟨⟨gtp, gbc, gpl, gna, gta, gba, gwa, goa, gtr, gbr, itr, ibr, r1, r2, r3, r4, r5, r6, r7, r8, fun k => by rw [wz_c h.symm]; exact rb k, rw0, n1, n2, hIw⟩, hT⟩
theorem rv_S.put {G : mj_G} {M0 M : mj_M} {B : Nat → Int} {n lim tp bc pl na ta ba wa oa : Nat} {tr br : Nat → Nat} {T : Nat → Nat × Nat × Int × List Int × Nat} {t : Nat × Nat × Int × List Int × Nat} {PL WA OA : Nat → Int} {TO BI : Nat → Nat → Int} {nm : Nat → List Int} {a j : Nat} {v : Int} (hA : rv_AT G M0 B n lim tp bc pl na ta ba wa oa tr br T) (hS : rv_S G M0 n lim tp pl na wa oa tr br t PL WA OA TO BI nm M) {x y : Nat} (g : G a = (x, y)) (hx : x ≠ 1008 ∧ x ≠ 1004 ∧ x ≠ 29100 ∧ x ≠ 30100 ∧ x ≠ 26100 ∧ x ≠ 28100) : rv_S G (mj_p0 M0 a j v) n lim tp pl na wa oa tr br t PL WA OA TO BI nm (mj_p0 M a j v) := by
  obtain ⟨⟨gtp, gbc, gpl, gna, gta, gba, gwa, goa, gtr, gbr, itr, ibr, r1, r2, r3, r4, r5, r6, r7, r8, rb, rw0, n1, n2, hIw⟩, hT⟩ := id hA
  obtain ⟨x1, x2, x3, x4, x5, x6⟩ := hx
  have n1 : a ≠ tp := hn_ne g gtp x1
  have n2 : a ≠ pl := hn_ne g gpl x2
  have n3 : a ≠ wa := hn_ne g gwa x3
  have n4 : a ≠ oa := hn_ne g goa x4
  have n5 : ∀ t, t < 8 → a ≠ tr t := fun t ht => hn_ne g (gtr t ht) x5
  have n6 : ∀ t, t < 8 → a ≠ br t := fun t ht => hn_ne g (gbr t ht) x6
  obtain ⟨⟨h1, h2, h3⟩, h4, h5, h6, h7, h8, h9, h10, f1, f2, f3⟩ := hS
  refine ⟨⟨by rw [wz_c n1.symm]; exact h1, by rw [wz_c n1.symm]; exact h2, by rw [wz_c n1.symm]; exact h3⟩, h4.cg (wz_c n1.symm) rfl rfl, (wz_c n2.symm).trans h5, (wz_c n3.symm).trans h6, (wz_c n4.symm).trans h7, fun s hs => (wz_c (n5 s hs).symm).trans (h8 s hs), fun s hs => (wz_c (n6 s hs).symm).trans (h9 s hs), h10, fun b b1 b2 b3 b4 b5 b6 => ?_, f2, f3⟩
  by_cases c : b = a
  · rw [c, wz_u, wz_u, f1 a n1 n2 n3 n4 n5 n6]
  · rw [wz_c c, wz_c c]; exact f1 b b1 b2 b3 b4 b5 b6
theorem rv_S.fx {G : mj_G} {M0 M : mj_M} {B : Nat → Int} {n lim tp bc pl na ta ba wa oa : Nat} {tr br : Nat → Nat} {T : Nat → Nat × Nat × Int × List Int × Nat} {t : Nat × Nat × Int × List Int × Nat} {PL WA OA : Nat → Int} {TO BI : Nat → Nat → Int} {nm : Nat → List Int} {a : Nat} (hA : rv_AT G M0 B n lim tp bc pl na ta ba wa oa tr br T) (hS : rv_S G M0 n lim tp pl na wa oa tr br t PL WA OA TO BI nm M) {x y : Nat} (g : G a = (x, y)) (hx : x ≠ 1008 ∧ x ≠ 1004 ∧ x ≠ 29100 ∧ x ≠ 30100 ∧ x ≠ 26100 ∧ x ≠ 28100) : M.1 a = M0.1 a := by
  obtain ⟨⟨gtp, gbc, gpl, gna, gta, gba, gwa, goa, gtr, gbr, itr, ibr, r1, r2, r3, r4, r5, r6, r7, r8, rb, rw0, n1, n2, hIw⟩, hT⟩ := id hA
  obtain ⟨x1, x2, x3, x4, x5, x6⟩ := hx
  exact hS.2.2.2.2.2.2.2.2.1 a (hn_ne g gtp x1) (hn_ne g gpl x2) (hn_ne g gwa x3) (hn_ne g goa x4) (fun t ht => hn_ne g (gtr t ht) x5) (fun t ht => hn_ne g (gbr t ht) x6)
theorem rv_AT.dfo {G : mj_G} {M0 : mj_M} {B : Nat → Int} {n lim tp bc pl na ta ba wa oa : Nat} {tr br : Nat → Nat} {T : Nat → Nat × Nat × Int × List Int × Nat} {dl fa sa ca : Nat} {M1 : mj_M} (hA : rv_AT G M0 B n lim tp bc pl na ta ba wa oa tr br T) (hD : rv_D G M0 dl fa sa ca) (h : rv_dfo dl fa sa ca M0 M1) : rv_AT G M1 B n lim tp bc pl na ta ba wa oa tr br T := by
  obtain ⟨⟨gtp, gbc, gpl, gna, gta, gba, gwa, goa, gtr, gbr, itr, ibr, r1, r2, r3, r4, r5, r6, r7, r8, rb, rw0, n1, n2, hIw⟩, hT⟩ := id hA
  refine ⟨⟨gtp, gbc, gpl, gna, gta, gba, gwa, goa, gtr, gbr, itr, ibr, ?_, ?_, ?_, ?_, ?_, ?_, ?_, ?_, fun k => by rw [h.1 bc (hn_ne gbc hD.1 (by decide)) (hn_ne gbc hD.2.1 (by decide)) (hn_ne gbc hD.2.2.1 (by decide)) (hn_ne gbc hD.2.2.2.1 (by decide))]; exact rb k, ?_, n1, n2, hIw⟩, hT⟩
  all_goals (first | (rw [h.2]; assumption) | (unfold rv_wl at *; rw [h.2]; assumption))
theorem r_X1_tell {G : mj_G} {M0 M : mj_M} {B : Nat → Int} {n lim tp bc pl na ta ba wa oa : Nat} {tr br : Nat → Nat} {T : Nat → Nat × Nat × Int × List Int × Nat} {PL WA OA : Nat → Int} {TO BI : Nat → Nat → Int} {nm : Nat → List Int} {Q : mj_P} {d : Nat} {t : Nat × Nat × Int × List Int × Nat} {dl fa sa ca : Nat} {z a b c : Int} (hA : rv_AT G M0 B n lim tp bc pl na ta ba wa oa tr br T) (hS : rv_S G M0 n lim tp pl na wa oa tr br t PL WA OA TO BI nm M) (hD : rv_D G M0 dl fa sa ca) {j : Nat} (hj : j < 12) (hz : z = (j : Int)) (h3 : 0 ≤ M0.1 dl 3 ∧ M0.1 dl 3 ≤ 12) (hQ : ∀ M0' M', rv_AT G M0' B n lim tp bc pl na ta ba wa oa tr br T → rv_dfo dl fa sa ca M0 M0' → rv_S G M0' n lim tp pl na wa oa tr br t PL WA OA TO BI nm M' → M0'.1 fa = rv_up (M0.1 fa) j a → M0'.1 sa = rv_up (M0.1 sa) j b → M0'.1 ca = rv_up (M0.1 ca) j c → M0'.1 dl 3 = M0.1 dl 3 + 1 → Q none G M') : mj_R mj_tab (d + 1) 23 [.inr (.inr (some dl)), .inl z, .inl a, .inl b, .inl c] G M Q := by
  obtain ⟨⟨gtp, gbc, gpl, gna, gta, gba, gwa, goa, gtr, gbr, itr, ibr, r1, r2, r3, r4, r5, r6, r7, r8, rb, rw0, n1, n2, hIw⟩, hT⟩ := id hA
  obtain ⟨gdl, gfa, gsa, gca, e0, e1, e2⟩ := id hD
  have hx : ∀ x ∈ [1002, 16100, 17100, 18100], x ≠ 1008 ∧ x ≠ 1004 ∧ x ≠ 29100 ∧ x ≠ 30100 ∧ x ≠ 26100 ∧ x ≠ 28100 := by decide
  refine ⟨Nat.le_of_ble_eq_true rfl, ?_⟩
  show wz d mt_X1_tell.2.2.2.2.1 Q mt_X1_tell.2.2.2.2.1 [some (.inr (.inr (some dl))), some (.inl z), some (.inl a), some (.inl b), some (.inl c)] [] G M _ _
  refine w_aln rfl ?_
  refine w_gr gdl rfl (by decide) rfl (hS.rq gdl gtp (by decide) e0) ?_
  refine w_iln rfl ?_
  refine w_iln rfl ?_
  refine w_iast gfa rfl (by decide) (by omega) (by show z < ((12 : Nat) : Int); omega) ?_
  refine w_aln rfl ?_
  refine w_gr gdl rfl (by decide) rfl (hS.rq gdl gtp (by decide) e1) ?_
  refine w_iln rfl ?_
  refine w_iln rfl ?_
  refine w_iast gsa rfl (by decide) (by omega) (by show z < ((12 : Nat) : Int); omega) ?_
  refine w_aln rfl ?_
  refine w_gr gdl rfl (by decide) rfl (hS.rq gdl gtp (by decide) e2) ?_
  refine w_iln rfl ?_
  refine w_il rfl ?_
  refine w_iast gca rfl (by decide) (by omega) (by show z < ((12 : Nat) : Int); omega) ?_
  refine w_aln rfl ?_
  refine w_dupr ?_
  refine w_gi gdl rfl (by decide) rfl ((hn_n (Or.inl (hn_ne gdl gca (by decide)))).trans ((hn_n (Or.inl (hn_ne gdl gsa (by decide)))).trans ((hn_n (Or.inl (hn_ne gdl gfa (by decide)))).trans (congrFun (rv_S.fx hA hS gdl (hx _ (by decide))) 3)))) ?_
  refine w_ic ?_
  refine w_add ⟨by omega, by omega⟩ ?_
  refine w_pi gdl rfl (by decide) rfl (fun q => by cases q) ?_
  rw [show z.toNat = j by omega]
  have a1 := hA.put (a := fa) (j := j) (v := a) (hn_ne gfa gbc (by decide))
  have a2 := a1.put (a := sa) (j := j) (v := b) (hn_ne gsa gbc (by decide))
  have a3 := a2.put (a := ca) (j := j) (v := c) (hn_ne gca gbc (by decide))
  have a4 := a3.put (a := dl) (j := 3) (v := M0.1 dl 3 + 1) (hn_ne gdl gbc (by decide))
  have s1 := rv_S.put (j := j) (v := a) hA hS gfa (hx _ (by decide))
  have s2 := rv_S.put (j := j) (v := b) a1 s1 gsa (hx _ (by decide))
  have s3 := rv_S.put (j := j) (v := c) a2 s2 gca (hx _ (by decide))
  have s4 := rv_S.put (j := 3) (v := M0.1 dl 3 + 1) a3 s3 gdl (hx _ (by decide))
  refine w_ret (hQ _ _ a4 ⟨fun x x1 x2 x3 x4 => (wz_c x1).trans ((wz_c x4).trans ((wz_c x3).trans (wz_c x2))), rfl⟩ s4 ?_ ?_ ?_ hn_s)
  · rw [wz_c (hn_ne gfa gdl (by decide)), wz_c (hn_ne gfa gca (by decide)), wz_c (hn_ne gfa gsa (by decide)), wz_u]
  · rw [wz_c (hn_ne gsa gdl (by decide)), wz_c (hn_ne gsa gca (by decide)), wz_u, wz_c (hn_ne gsa gfa (by decide))]
  · rw [wz_c (hn_ne gca gdl (by decide)), wz_u, wz_c (hn_ne gca gsa (by decide)), wz_c (hn_ne gca gfa (by decide))]
set_option maxHeartbeats 8000000 in
theorem r_dr_n {G : mj_G} {M0 M : mj_M} {B : Nat → Int} {n lim tp bc pl na ta ba wa oa : Nat} {tr br : Nat → Nat} {T : Nat → Nat × Nat × Int × List Int × Nat} {PL WA OA : Nat → Int} {TO BI : Nat → Nat → Int} {nm : Nat → List Int} {Q : mj_P} {d q : Nat} {dl fa sa ca : Nat} {R : Nat → Int} (hA : rv_AT G M0 B n lim tp bc pl na ta ba wa oa tr br T) (hS : rv_S G M0 n lim tp pl na wa oa tr br (T q) PL WA OA TO BI nm M) (hqn : q ≤ n) (hD : rv_D G M0 dl fa sa ca) (hR : rv_DR M0 fa sa ca R) (hdb : rv_db (PL 4) R) (hb : rv_pb PL) (h3 : M0.1 dl 3 = (rv_cn R 12 : Int)) (e9 : M.2.2 tp 9 = none) (h10 : ∀ M', rv_F tp pl na wa oa tr br M0 1 (T q).2.1 M' → Q (some (.inl 0)) G M') : mj_R mj_tab (d + 7) 21 [.inr (.inr (some dl)), .inr (.inr (some tp)), .inr (.inr (some pl))] G M Q := by
  obtain ⟨⟨gtp, gbc, gpl, gna, gta, gba, gwa, goa, gtr, gbr, itr, ibr, r1, r2, r3, r4, r5, r6, r7, r8, rb, rw0, n1, n2, hIw⟩, hT⟩ := id hA
  obtain ⟨b1, b2, b3, b4⟩ := id hb
  obtain ⟨gdl, gfa, gsa, gca, -⟩ := id hD
  have k12 := rv_cn_le R 12
  refine ⟨Nat.le_of_ble_eq_true rfl, ?_⟩
  show wz (d + 6) mt_X1_readRow.2.2.2.2.1 Q mt_X1_readRow.2.2.2.2.1 [some (.inr (.inr (some dl))), some (.inr (.inr (some tp))), some (.inr (.inr (some pl))), none, none] [] G M _ _
  refine w_aln rfl ?_
  refine w_gro gtp rfl (by decide) rfl (e9) ?_
  refine w_asn ?_
  show wz _ _ _ _ [some (.inr (.inr (some dl))), some (.inr (.inr (some tp))), some (.inr (.inr (some pl))), some (.inr (.inr none)), none] _ _ _ _ _
  refine w_aln rfl ?_
  refine w_gs ?_
  intro a1 ga1
  have ga1 : G a1 = (910050, 0) := ga1
  refine w_aceq (fun c2 => ?_) (fun c2 => ?_)
  · cases c2
  · skip
    refine w_aln rfl ?_
    refine w_gs ?_
    intro a3 ga3
    have ga3 : G a3 = (911050, 0) := ga3
    refine w_aceq (fun c4 => ?_) (fun c4 => ?_)
    · cases c4
    · skip
      refine w_aln rfl ?_
      refine w_ic ?_
      refine w_cv (st := []) rfl gtp rfl (Nat.le_of_ble_eq_true rfl) (fun kk h => h) (r_X7_refuse (d := d + 5) hA hS (by decide) (fun MF5 F5 => ?_))
      exact w_iret (fun _ => Or.inl rfl) (h10 _ F5)
set_option maxHeartbeats 8000000 in
theorem r_dr_0 {G : mj_G} {M0 M : mj_M} {B : Nat → Int} {n lim tp bc pl na ta ba wa oa : Nat} {tr br : Nat → Nat} {T : Nat → Nat × Nat × Int × List Int × Nat} {PL WA OA : Nat → Int} {TO BI : Nat → Nat → Int} {nm : Nat → List Int} {Q : mj_P} {d q : Nat} {dl fa sa ca : Nat} {R : Nat → Int} (hA : rv_AT G M0 B n lim tp bc pl na ta ba wa oa tr br T) (hS : rv_S G M0 n lim tp pl na wa oa tr br (T q) PL WA OA TO BI nm M) (hqn : q ≤ n) (hD : rv_D G M0 dl fa sa ca) (hR : rv_DR M0 fa sa ca R) (hdb : rv_db (PL 4) R) (hb : rv_pb PL) (h3 : M0.1 dl 3 = (rv_cn R 12 : Int)) {w : Nat} (gw : G w = (900050, 0)) (e9 : M.2.2 tp 9 = some w) (h10 : ∀ M', rv_F tp pl na wa oa tr br M0 1 (T q).2.1 M' → Q (some (.inl 0)) G M') : mj_R mj_tab (d + 7) 21 [.inr (.inr (some dl)), .inr (.inr (some tp)), .inr (.inr (some pl))] G M Q := by
  obtain ⟨⟨gtp, gbc, gpl, gna, gta, gba, gwa, goa, gtr, gbr, itr, ibr, r1, r2, r3, r4, r5, r6, r7, r8, rb, rw0, n1, n2, hIw⟩, hT⟩ := id hA
  obtain ⟨b1, b2, b3, b4⟩ := id hb
  obtain ⟨gdl, gfa, gsa, gca, -⟩ := id hD
  have k12 := rv_cn_le R 12
  refine ⟨Nat.le_of_ble_eq_true rfl, ?_⟩
  show wz (d + 6) mt_X1_readRow.2.2.2.2.1 Q mt_X1_readRow.2.2.2.2.1 [some (.inr (.inr (some dl))), some (.inr (.inr (some tp))), some (.inr (.inr (some pl))), none, none] [] G M _ _
  refine w_aln rfl ?_
  refine w_gr gtp rfl (by decide) rfl (e9) ?_
  refine w_asn ?_
  show wz _ _ _ _ [some (.inr (.inr (some dl))), some (.inr (.inr (some tp))), some (.inr (.inr (some pl))), some (.inr (.inr (some w))), none] _ _ _ _ _
  refine w_aln rfl ?_
  refine w_gs ?_
  intro a1 ga1
  have ga1 : G a1 = (910050, 0) := ga1
  refine w_aceq (fun c2 => ?_) (fun c2 => ?_)
  · exact absurd (Option.some.inj c2) (hn_ne gw ga1 (by decide))
  · skip
    refine w_aln rfl ?_
    refine w_gs ?_
    intro a3 ga3
    have ga3 : G a3 = (911050, 0) := ga3
    refine w_aceq (fun c4 => ?_) (fun c4 => ?_)
    · exact absurd (Option.some.inj c4) (hn_ne gw ga3 (by decide))
    · skip
      refine w_aln rfl ?_
      refine w_ic ?_
      refine w_cv (st := []) rfl gtp rfl (Nat.le_of_ble_eq_true rfl) (fun kk h => h) (r_X7_refuse (d := d + 5) hA hS (by decide) (fun MF5 F5 => ?_))
      exact w_iret (fun _ => Or.inl rfl) (h10 _ F5)
set_option maxHeartbeats 8000000 in
theorem r_dr_1 {G : mj_G} {M0 M : mj_M} {B : Nat → Int} {n lim tp bc pl na ta ba wa oa : Nat} {tr br : Nat → Nat} {T : Nat → Nat × Nat × Int × List Int × Nat} {PL WA OA : Nat → Int} {TO BI : Nat → Nat → Int} {nm : Nat → List Int} {Q : mj_P} {d q : Nat} {dl fa sa ca : Nat} {R : Nat → Int} (hA : rv_AT G M0 B n lim tp bc pl na ta ba wa oa tr br T) (hS : rv_S G M0 n lim tp pl na wa oa tr br (T q) PL WA OA TO BI nm M) (hqn : q ≤ n) (hD : rv_D G M0 dl fa sa ca) (hR : rv_DR M0 fa sa ca R) (hdb : rv_db (PL 4) R) (hb : rv_pb PL) (h3 : M0.1 dl 3 = (rv_cn R 12 : Int)) {w : Nat} (gw : G w = (901050, 0)) (e9 : M.2.2 tp 9 = some w) (h10 : ∀ M', rv_F tp pl na wa oa tr br M0 1 (T q).2.1 M' → Q (some (.inl 0)) G M') : mj_R mj_tab (d + 7) 21 [.inr (.inr (some dl)), .inr (.inr (some tp)), .inr (.inr (some pl))] G M Q := by
  obtain ⟨⟨gtp, gbc, gpl, gna, gta, gba, gwa, goa, gtr, gbr, itr, ibr, r1, r2, r3, r4, r5, r6, r7, r8, rb, rw0, n1, n2, hIw⟩, hT⟩ := id hA
  obtain ⟨b1, b2, b3, b4⟩ := id hb
  obtain ⟨gdl, gfa, gsa, gca, -⟩ := id hD
  have k12 := rv_cn_le R 12
  refine ⟨Nat.le_of_ble_eq_true rfl, ?_⟩
  show wz (d + 6) mt_X1_readRow.2.2.2.2.1 Q mt_X1_readRow.2.2.2.2.1 [some (.inr (.inr (some dl))), some (.inr (.inr (some tp))), some (.inr (.inr (some pl))), none, none] [] G M _ _
  refine w_aln rfl ?_
  refine w_gr gtp rfl (by decide) rfl (e9) ?_
  refine w_asn ?_
  show wz _ _ _ _ [some (.inr (.inr (some dl))), some (.inr (.inr (some tp))), some (.inr (.inr (some pl))), some (.inr (.inr (some w))), none] _ _ _ _ _
  refine w_aln rfl ?_
  refine w_gs ?_
  intro a1 ga1
  have ga1 : G a1 = (910050, 0) := ga1
  refine w_aceq (fun c2 => ?_) (fun c2 => ?_)
  · exact absurd (Option.some.inj c2) (hn_ne gw ga1 (by decide))
  · skip
    refine w_aln rfl ?_
    refine w_gs ?_
    intro a3 ga3
    have ga3 : G a3 = (911050, 0) := ga3
    refine w_aceq (fun c4 => ?_) (fun c4 => ?_)
    · exact absurd (Option.some.inj c4) (hn_ne gw ga3 (by decide))
    · skip
      refine w_aln rfl ?_
      refine w_ic ?_
      refine w_cv (st := []) rfl gtp rfl (Nat.le_of_ble_eq_true rfl) (fun kk h => h) (r_X7_refuse (d := d + 5) hA hS (by decide) (fun MF5 F5 => ?_))
      exact w_iret (fun _ => Or.inl rfl) (h10 _ F5)
set_option maxHeartbeats 8000000 in
theorem r_dr_2 {G : mj_G} {M0 M : mj_M} {B : Nat → Int} {n lim tp bc pl na ta ba wa oa : Nat} {tr br : Nat → Nat} {T : Nat → Nat × Nat × Int × List Int × Nat} {PL WA OA : Nat → Int} {TO BI : Nat → Nat → Int} {nm : Nat → List Int} {Q : mj_P} {d q : Nat} {dl fa sa ca : Nat} {R : Nat → Int} (hA : rv_AT G M0 B n lim tp bc pl na ta ba wa oa tr br T) (hS : rv_S G M0 n lim tp pl na wa oa tr br (T q) PL WA OA TO BI nm M) (hqn : q ≤ n) (hD : rv_D G M0 dl fa sa ca) (hR : rv_DR M0 fa sa ca R) (hdb : rv_db (PL 4) R) (hb : rv_pb PL) (h3 : M0.1 dl 3 = (rv_cn R 12 : Int)) {w : Nat} (gw : G w = (902050, 0)) (e9 : M.2.2 tp 9 = some w) (h10 : ∀ M', rv_F tp pl na wa oa tr br M0 1 (T q).2.1 M' → Q (some (.inl 0)) G M') : mj_R mj_tab (d + 7) 21 [.inr (.inr (some dl)), .inr (.inr (some tp)), .inr (.inr (some pl))] G M Q := by
  obtain ⟨⟨gtp, gbc, gpl, gna, gta, gba, gwa, goa, gtr, gbr, itr, ibr, r1, r2, r3, r4, r5, r6, r7, r8, rb, rw0, n1, n2, hIw⟩, hT⟩ := id hA
  obtain ⟨b1, b2, b3, b4⟩ := id hb
  obtain ⟨gdl, gfa, gsa, gca, -⟩ := id hD
  have k12 := rv_cn_le R 12
  refine ⟨Nat.le_of_ble_eq_true rfl, ?_⟩
  show wz (d + 6) mt_X1_readRow.2.2.2.2.1 Q mt_X1_readRow.2.2.2.2.1 [some (.inr (.inr (some dl))), some (.inr (.inr (some tp))), some (.inr (.inr (some pl))), none, none] [] G M _ _
  refine w_aln rfl ?_
  refine w_gr gtp rfl (by decide) rfl (e9) ?_
  refine w_asn ?_
  show wz _ _ _ _ [some (.inr (.inr (some dl))), some (.inr (.inr (some tp))), some (.inr (.inr (some pl))), some (.inr (.inr (some w))), none] _ _ _ _ _
  refine w_aln rfl ?_
  refine w_gs ?_
  intro a1 ga1
  have ga1 : G a1 = (910050, 0) := ga1
  refine w_aceq (fun c2 => ?_) (fun c2 => ?_)
  · exact absurd (Option.some.inj c2) (hn_ne gw ga1 (by decide))
  · skip
    refine w_aln rfl ?_
    refine w_gs ?_
    intro a3 ga3
    have ga3 : G a3 = (911050, 0) := ga3
    refine w_aceq (fun c4 => ?_) (fun c4 => ?_)
    · exact absurd (Option.some.inj c4) (hn_ne gw ga3 (by decide))
    · skip
      refine w_aln rfl ?_
      refine w_ic ?_
      refine w_cv (st := []) rfl gtp rfl (Nat.le_of_ble_eq_true rfl) (fun kk h => h) (r_X7_refuse (d := d + 5) hA hS (by decide) (fun MF5 F5 => ?_))
      exact w_iret (fun _ => Or.inl rfl) (h10 _ F5)
set_option maxHeartbeats 8000000 in
theorem r_dr_3 {G : mj_G} {M0 M : mj_M} {B : Nat → Int} {n lim tp bc pl na ta ba wa oa : Nat} {tr br : Nat → Nat} {T : Nat → Nat × Nat × Int × List Int × Nat} {PL WA OA : Nat → Int} {TO BI : Nat → Nat → Int} {nm : Nat → List Int} {Q : mj_P} {d q : Nat} {dl fa sa ca : Nat} {R : Nat → Int} (hA : rv_AT G M0 B n lim tp bc pl na ta ba wa oa tr br T) (hS : rv_S G M0 n lim tp pl na wa oa tr br (T q) PL WA OA TO BI nm M) (hqn : q ≤ n) (hD : rv_D G M0 dl fa sa ca) (hR : rv_DR M0 fa sa ca R) (hdb : rv_db (PL 4) R) (hb : rv_pb PL) (h3 : M0.1 dl 3 = (rv_cn R 12 : Int)) {w : Nat} (gw : G w = (903050, 0)) (e9 : M.2.2 tp 9 = some w) (h10 : ∀ M', rv_F tp pl na wa oa tr br M0 1 (T q).2.1 M' → Q (some (.inl 0)) G M') : mj_R mj_tab (d + 7) 21 [.inr (.inr (some dl)), .inr (.inr (some tp)), .inr (.inr (some pl))] G M Q := by
  obtain ⟨⟨gtp, gbc, gpl, gna, gta, gba, gwa, goa, gtr, gbr, itr, ibr, r1, r2, r3, r4, r5, r6, r7, r8, rb, rw0, n1, n2, hIw⟩, hT⟩ := id hA
  obtain ⟨b1, b2, b3, b4⟩ := id hb
  obtain ⟨gdl, gfa, gsa, gca, -⟩ := id hD
  have k12 := rv_cn_le R 12
  refine ⟨Nat.le_of_ble_eq_true rfl, ?_⟩
  show wz (d + 6) mt_X1_readRow.2.2.2.2.1 Q mt_X1_readRow.2.2.2.2.1 [some (.inr (.inr (some dl))), some (.inr (.inr (some tp))), some (.inr (.inr (some pl))), none, none] [] G M _ _
  refine w_aln rfl ?_
  refine w_gr gtp rfl (by decide) rfl (e9) ?_
  refine w_asn ?_
  show wz _ _ _ _ [some (.inr (.inr (some dl))), some (.inr (.inr (some tp))), some (.inr (.inr (some pl))), some (.inr (.inr (some w))), none] _ _ _ _ _
  refine w_aln rfl ?_
  refine w_gs ?_
  intro a1 ga1
  have ga1 : G a1 = (910050, 0) := ga1
  refine w_aceq (fun c2 => ?_) (fun c2 => ?_)
  · exact absurd (Option.some.inj c2) (hn_ne gw ga1 (by decide))
  · skip
    refine w_aln rfl ?_
    refine w_gs ?_
    intro a3 ga3
    have ga3 : G a3 = (911050, 0) := ga3
    refine w_aceq (fun c4 => ?_) (fun c4 => ?_)
    · exact absurd (Option.some.inj c4) (hn_ne gw ga3 (by decide))
    · skip
      refine w_aln rfl ?_
      refine w_ic ?_
      refine w_cv (st := []) rfl gtp rfl (Nat.le_of_ble_eq_true rfl) (fun kk h => h) (r_X7_refuse (d := d + 5) hA hS (by decide) (fun MF5 F5 => ?_))
      exact w_iret (fun _ => Or.inl rfl) (h10 _ F5)
set_option maxHeartbeats 8000000 in
theorem r_dr_4 {G : mj_G} {M0 M : mj_M} {B : Nat → Int} {n lim tp bc pl na ta ba wa oa : Nat} {tr br : Nat → Nat} {T : Nat → Nat × Nat × Int × List Int × Nat} {PL WA OA : Nat → Int} {TO BI : Nat → Nat → Int} {nm : Nat → List Int} {Q : mj_P} {d q : Nat} {dl fa sa ca : Nat} {R : Nat → Int} (hA : rv_AT G M0 B n lim tp bc pl na ta ba wa oa tr br T) (hS : rv_S G M0 n lim tp pl na wa oa tr br (T q) PL WA OA TO BI nm M) (hqn : q ≤ n) (hD : rv_D G M0 dl fa sa ca) (hR : rv_DR M0 fa sa ca R) (hdb : rv_db (PL 4) R) (hb : rv_pb PL) (h3 : M0.1 dl 3 = (rv_cn R 12 : Int)) {w : Nat} (gw : G w = (904050, 0)) (e9 : M.2.2 tp 9 = some w) (h10 : ∀ M', rv_F tp pl na wa oa tr br M0 1 (T q).2.1 M' → Q (some (.inl 0)) G M') : mj_R mj_tab (d + 7) 21 [.inr (.inr (some dl)), .inr (.inr (some tp)), .inr (.inr (some pl))] G M Q := by
  obtain ⟨⟨gtp, gbc, gpl, gna, gta, gba, gwa, goa, gtr, gbr, itr, ibr, r1, r2, r3, r4, r5, r6, r7, r8, rb, rw0, n1, n2, hIw⟩, hT⟩ := id hA
  obtain ⟨b1, b2, b3, b4⟩ := id hb
  obtain ⟨gdl, gfa, gsa, gca, -⟩ := id hD
  have k12 := rv_cn_le R 12
  refine ⟨Nat.le_of_ble_eq_true rfl, ?_⟩
  show wz (d + 6) mt_X1_readRow.2.2.2.2.1 Q mt_X1_readRow.2.2.2.2.1 [some (.inr (.inr (some dl))), some (.inr (.inr (some tp))), some (.inr (.inr (some pl))), none, none] [] G M _ _
  refine w_aln rfl ?_
  refine w_gr gtp rfl (by decide) rfl (e9) ?_
  refine w_asn ?_
  show wz _ _ _ _ [some (.inr (.inr (some dl))), some (.inr (.inr (some tp))), some (.inr (.inr (some pl))), some (.inr (.inr (some w))), none] _ _ _ _ _
  refine w_aln rfl ?_
  refine w_gs ?_
  intro a1 ga1
  have ga1 : G a1 = (910050, 0) := ga1
  refine w_aceq (fun c2 => ?_) (fun c2 => ?_)
  · exact absurd (Option.some.inj c2) (hn_ne gw ga1 (by decide))
  · skip
    refine w_aln rfl ?_
    refine w_gs ?_
    intro a3 ga3
    have ga3 : G a3 = (911050, 0) := ga3
    refine w_aceq (fun c4 => ?_) (fun c4 => ?_)
    · exact absurd (Option.some.inj c4) (hn_ne gw ga3 (by decide))
    · skip
      refine w_aln rfl ?_
      refine w_ic ?_
      refine w_cv (st := []) rfl gtp rfl (Nat.le_of_ble_eq_true rfl) (fun kk h => h) (r_X7_refuse (d := d + 5) hA hS (by decide) (fun MF5 F5 => ?_))
      exact w_iret (fun _ => Or.inl rfl) (h10 _ F5)
set_option maxHeartbeats 8000000 in
theorem r_dr_5 {G : mj_G} {M0 M : mj_M} {B : Nat → Int} {n lim tp bc pl na ta ba wa oa : Nat} {tr br : Nat → Nat} {T : Nat → Nat × Nat × Int × List Int × Nat} {PL WA OA : Nat → Int} {TO BI : Nat → Nat → Int} {nm : Nat → List Int} {Q : mj_P} {d q : Nat} {dl fa sa ca : Nat} {R : Nat → Int} (hA : rv_AT G M0 B n lim tp bc pl na ta ba wa oa tr br T) (hS : rv_S G M0 n lim tp pl na wa oa tr br (T q) PL WA OA TO BI nm M) (hqn : q ≤ n) (hD : rv_D G M0 dl fa sa ca) (hR : rv_DR M0 fa sa ca R) (hdb : rv_db (PL 4) R) (hb : rv_pb PL) (h3 : M0.1 dl 3 = (rv_cn R 12 : Int)) {w : Nat} (gw : G w = (905050, 0)) (e9 : M.2.2 tp 9 = some w) (h10 : ∀ M', rv_F tp pl na wa oa tr br M0 1 (T q).2.1 M' → Q (some (.inl 0)) G M') : mj_R mj_tab (d + 7) 21 [.inr (.inr (some dl)), .inr (.inr (some tp)), .inr (.inr (some pl))] G M Q := by
  obtain ⟨⟨gtp, gbc, gpl, gna, gta, gba, gwa, goa, gtr, gbr, itr, ibr, r1, r2, r3, r4, r5, r6, r7, r8, rb, rw0, n1, n2, hIw⟩, hT⟩ := id hA
  obtain ⟨b1, b2, b3, b4⟩ := id hb
  obtain ⟨gdl, gfa, gsa, gca, -⟩ := id hD
  have k12 := rv_cn_le R 12
  refine ⟨Nat.le_of_ble_eq_true rfl, ?_⟩
  show wz (d + 6) mt_X1_readRow.2.2.2.2.1 Q mt_X1_readRow.2.2.2.2.1 [some (.inr (.inr (some dl))), some (.inr (.inr (some tp))), some (.inr (.inr (some pl))), none, none] [] G M _ _
  refine w_aln rfl ?_
  refine w_gr gtp rfl (by decide) rfl (e9) ?_
  refine w_asn ?_
  show wz _ _ _ _ [some (.inr (.inr (some dl))), some (.inr (.inr (some tp))), some (.inr (.inr (some pl))), some (.inr (.inr (some w))), none] _ _ _ _ _
  refine w_aln rfl ?_
  refine w_gs ?_
  intro a1 ga1
  have ga1 : G a1 = (910050, 0) := ga1
  refine w_aceq (fun c2 => ?_) (fun c2 => ?_)
  · exact absurd (Option.some.inj c2) (hn_ne gw ga1 (by decide))
  · skip
    refine w_aln rfl ?_
    refine w_gs ?_
    intro a3 ga3
    have ga3 : G a3 = (911050, 0) := ga3
    refine w_aceq (fun c4 => ?_) (fun c4 => ?_)
    · exact absurd (Option.some.inj c4) (hn_ne gw ga3 (by decide))
    · skip
      refine w_aln rfl ?_
      refine w_ic ?_
      refine w_cv (st := []) rfl gtp rfl (Nat.le_of_ble_eq_true rfl) (fun kk h => h) (r_X7_refuse (d := d + 5) hA hS (by decide) (fun MF5 F5 => ?_))
      exact w_iret (fun _ => Or.inl rfl) (h10 _ F5)
set_option maxHeartbeats 8000000 in
theorem r_dr_6 {G : mj_G} {M0 M : mj_M} {B : Nat → Int} {n lim tp bc pl na ta ba wa oa : Nat} {tr br : Nat → Nat} {T : Nat → Nat × Nat × Int × List Int × Nat} {PL WA OA : Nat → Int} {TO BI : Nat → Nat → Int} {nm : Nat → List Int} {Q : mj_P} {d q : Nat} {dl fa sa ca : Nat} {R : Nat → Int} (hA : rv_AT G M0 B n lim tp bc pl na ta ba wa oa tr br T) (hS : rv_S G M0 n lim tp pl na wa oa tr br (T q) PL WA OA TO BI nm M) (hqn : q ≤ n) (hD : rv_D G M0 dl fa sa ca) (hR : rv_DR M0 fa sa ca R) (hdb : rv_db (PL 4) R) (hb : rv_pb PL) (h3 : M0.1 dl 3 = (rv_cn R 12 : Int)) {w : Nat} (gw : G w = (906050, 0)) (e9 : M.2.2 tp 9 = some w) (h10 : ∀ M', rv_F tp pl na wa oa tr br M0 1 (T q).2.1 M' → Q (some (.inl 0)) G M') : mj_R mj_tab (d + 7) 21 [.inr (.inr (some dl)), .inr (.inr (some tp)), .inr (.inr (some pl))] G M Q := by
  obtain ⟨⟨gtp, gbc, gpl, gna, gta, gba, gwa, goa, gtr, gbr, itr, ibr, r1, r2, r3, r4, r5, r6, r7, r8, rb, rw0, n1, n2, hIw⟩, hT⟩ := id hA
  obtain ⟨b1, b2, b3, b4⟩ := id hb
  obtain ⟨gdl, gfa, gsa, gca, -⟩ := id hD
  have k12 := rv_cn_le R 12
  refine ⟨Nat.le_of_ble_eq_true rfl, ?_⟩
  show wz (d + 6) mt_X1_readRow.2.2.2.2.1 Q mt_X1_readRow.2.2.2.2.1 [some (.inr (.inr (some dl))), some (.inr (.inr (some tp))), some (.inr (.inr (some pl))), none, none] [] G M _ _
  refine w_aln rfl ?_
  refine w_gr gtp rfl (by decide) rfl (e9) ?_
  refine w_asn ?_
  show wz _ _ _ _ [some (.inr (.inr (some dl))), some (.inr (.inr (some tp))), some (.inr (.inr (some pl))), some (.inr (.inr (some w))), none] _ _ _ _ _
  refine w_aln rfl ?_
  refine w_gs ?_
  intro a1 ga1
  have ga1 : G a1 = (910050, 0) := ga1
  refine w_aceq (fun c2 => ?_) (fun c2 => ?_)
  · exact absurd (Option.some.inj c2) (hn_ne gw ga1 (by decide))
  · skip
    refine w_aln rfl ?_
    refine w_gs ?_
    intro a3 ga3
    have ga3 : G a3 = (911050, 0) := ga3
    refine w_aceq (fun c4 => ?_) (fun c4 => ?_)
    · exact absurd (Option.some.inj c4) (hn_ne gw ga3 (by decide))
    · skip
      refine w_aln rfl ?_
      refine w_ic ?_
      refine w_cv (st := []) rfl gtp rfl (Nat.le_of_ble_eq_true rfl) (fun kk h => h) (r_X7_refuse (d := d + 5) hA hS (by decide) (fun MF5 F5 => ?_))
      exact w_iret (fun _ => Or.inl rfl) (h10 _ F5)
set_option maxHeartbeats 8000000 in
theorem r_dr_7 {G : mj_G} {M0 M : mj_M} {B : Nat → Int} {n lim tp bc pl na ta ba wa oa : Nat} {tr br : Nat → Nat} {T : Nat → Nat × Nat × Int × List Int × Nat} {PL WA OA : Nat → Int} {TO BI : Nat → Nat → Int} {nm : Nat → List Int} {Q : mj_P} {d q : Nat} {dl fa sa ca : Nat} {R : Nat → Int} (hA : rv_AT G M0 B n lim tp bc pl na ta ba wa oa tr br T) (hS : rv_S G M0 n lim tp pl na wa oa tr br (T q) PL WA OA TO BI nm M) (hqn : q ≤ n) (hD : rv_D G M0 dl fa sa ca) (hR : rv_DR M0 fa sa ca R) (hdb : rv_db (PL 4) R) (hb : rv_pb PL) (h3 : M0.1 dl 3 = (rv_cn R 12 : Int)) {w : Nat} (gw : G w = (907050, 0)) (e9 : M.2.2 tp 9 = some w) (h10 : ∀ M', rv_F tp pl na wa oa tr br M0 1 (T q).2.1 M' → Q (some (.inl 0)) G M') : mj_R mj_tab (d + 7) 21 [.inr (.inr (some dl)), .inr (.inr (some tp)), .inr (.inr (some pl))] G M Q := by
  obtain ⟨⟨gtp, gbc, gpl, gna, gta, gba, gwa, goa, gtr, gbr, itr, ibr, r1, r2, r3, r4, r5, r6, r7, r8, rb, rw0, n1, n2, hIw⟩, hT⟩ := id hA
  obtain ⟨b1, b2, b3, b4⟩ := id hb
  obtain ⟨gdl, gfa, gsa, gca, -⟩ := id hD
  have k12 := rv_cn_le R 12
  refine ⟨Nat.le_of_ble_eq_true rfl, ?_⟩
  show wz (d + 6) mt_X1_readRow.2.2.2.2.1 Q mt_X1_readRow.2.2.2.2.1 [some (.inr (.inr (some dl))), some (.inr (.inr (some tp))), some (.inr (.inr (some pl))), none, none] [] G M _ _
  refine w_aln rfl ?_
  refine w_gr gtp rfl (by decide) rfl (e9) ?_
  refine w_asn ?_
  show wz _ _ _ _ [some (.inr (.inr (some dl))), some (.inr (.inr (some tp))), some (.inr (.inr (some pl))), some (.inr (.inr (some w))), none] _ _ _ _ _
  refine w_aln rfl ?_
  refine w_gs ?_
  intro a1 ga1
  have ga1 : G a1 = (910050, 0) := ga1
  refine w_aceq (fun c2 => ?_) (fun c2 => ?_)
  · exact absurd (Option.some.inj c2) (hn_ne gw ga1 (by decide))
  · skip
    refine w_aln rfl ?_
    refine w_gs ?_
    intro a3 ga3
    have ga3 : G a3 = (911050, 0) := ga3
    refine w_aceq (fun c4 => ?_) (fun c4 => ?_)
    · exact absurd (Option.some.inj c4) (hn_ne gw ga3 (by decide))
    · skip
      refine w_aln rfl ?_
      refine w_ic ?_
      refine w_cv (st := []) rfl gtp rfl (Nat.le_of_ble_eq_true rfl) (fun kk h => h) (r_X7_refuse (d := d + 5) hA hS (by decide) (fun MF5 F5 => ?_))
      exact w_iret (fun _ => Or.inl rfl) (h10 _ F5)
set_option maxHeartbeats 8000000 in
theorem r_dr_8 {G : mj_G} {M0 M : mj_M} {B : Nat → Int} {n lim tp bc pl na ta ba wa oa : Nat} {tr br : Nat → Nat} {T : Nat → Nat × Nat × Int × List Int × Nat} {PL WA OA : Nat → Int} {TO BI : Nat → Nat → Int} {nm : Nat → List Int} {Q : mj_P} {d q : Nat} {dl fa sa ca : Nat} {R : Nat → Int} (hA : rv_AT G M0 B n lim tp bc pl na ta ba wa oa tr br T) (hS : rv_S G M0 n lim tp pl na wa oa tr br (T q) PL WA OA TO BI nm M) (hqn : q ≤ n) (hD : rv_D G M0 dl fa sa ca) (hR : rv_DR M0 fa sa ca R) (hdb : rv_db (PL 4) R) (hb : rv_pb PL) (h3 : M0.1 dl 3 = (rv_cn R 12 : Int)) {w : Nat} (gw : G w = (908050, 0)) (e9 : M.2.2 tp 9 = some w) (h10 : ∀ M', rv_F tp pl na wa oa tr br M0 1 (T q).2.1 M' → Q (some (.inl 0)) G M') : mj_R mj_tab (d + 7) 21 [.inr (.inr (some dl)), .inr (.inr (some tp)), .inr (.inr (some pl))] G M Q := by
  obtain ⟨⟨gtp, gbc, gpl, gna, gta, gba, gwa, goa, gtr, gbr, itr, ibr, r1, r2, r3, r4, r5, r6, r7, r8, rb, rw0, n1, n2, hIw⟩, hT⟩ := id hA
  obtain ⟨b1, b2, b3, b4⟩ := id hb
  obtain ⟨gdl, gfa, gsa, gca, -⟩ := id hD
  have k12 := rv_cn_le R 12
  refine ⟨Nat.le_of_ble_eq_true rfl, ?_⟩
  show wz (d + 6) mt_X1_readRow.2.2.2.2.1 Q mt_X1_readRow.2.2.2.2.1 [some (.inr (.inr (some dl))), some (.inr (.inr (some tp))), some (.inr (.inr (some pl))), none, none] [] G M _ _
  refine w_aln rfl ?_
  refine w_gr gtp rfl (by decide) rfl (e9) ?_
  refine w_asn ?_
  show wz _ _ _ _ [some (.inr (.inr (some dl))), some (.inr (.inr (some tp))), some (.inr (.inr (some pl))), some (.inr (.inr (some w))), none] _ _ _ _ _
  refine w_aln rfl ?_
  refine w_gs ?_
  intro a1 ga1
  have ga1 : G a1 = (910050, 0) := ga1
  refine w_aceq (fun c2 => ?_) (fun c2 => ?_)
  · exact absurd (Option.some.inj c2) (hn_ne gw ga1 (by decide))
  · skip
    refine w_aln rfl ?_
    refine w_gs ?_
    intro a3 ga3
    have ga3 : G a3 = (911050, 0) := ga3
    refine w_aceq (fun c4 => ?_) (fun c4 => ?_)
    · exact absurd (Option.some.inj c4) (hn_ne gw ga3 (by decide))
    · skip
      refine w_aln rfl ?_
      refine w_ic ?_
      refine w_cv (st := []) rfl gtp rfl (Nat.le_of_ble_eq_true rfl) (fun kk h => h) (r_X7_refuse (d := d + 5) hA hS (by decide) (fun MF5 F5 => ?_))
      exact w_iret (fun _ => Or.inl rfl) (h10 _ F5)
set_option maxHeartbeats 8000000 in
theorem r_dr_9 {G : mj_G} {M0 M : mj_M} {B : Nat → Int} {n lim tp bc pl na ta ba wa oa : Nat} {tr br : Nat → Nat} {T : Nat → Nat × Nat × Int × List Int × Nat} {PL WA OA : Nat → Int} {TO BI : Nat → Nat → Int} {nm : Nat → List Int} {Q : mj_P} {d q : Nat} {dl fa sa ca : Nat} {R : Nat → Int} (hA : rv_AT G M0 B n lim tp bc pl na ta ba wa oa tr br T) (hS : rv_S G M0 n lim tp pl na wa oa tr br (T q) PL WA OA TO BI nm M) (hqn : q ≤ n) (hD : rv_D G M0 dl fa sa ca) (hR : rv_DR M0 fa sa ca R) (hdb : rv_db (PL 4) R) (hb : rv_pb PL) (h3 : M0.1 dl 3 = (rv_cn R 12 : Int)) {w : Nat} (gw : G w = (909050, 0)) (e9 : M.2.2 tp 9 = some w) (h10 : ∀ M', rv_F tp pl na wa oa tr br M0 1 (T q).2.1 M' → Q (some (.inl 0)) G M') : mj_R mj_tab (d + 7) 21 [.inr (.inr (some dl)), .inr (.inr (some tp)), .inr (.inr (some pl))] G M Q := by
  obtain ⟨⟨gtp, gbc, gpl, gna, gta, gba, gwa, goa, gtr, gbr, itr, ibr, r1, r2, r3, r4, r5, r6, r7, r8, rb, rw0, n1, n2, hIw⟩, hT⟩ := id hA
  obtain ⟨b1, b2, b3, b4⟩ := id hb
  obtain ⟨gdl, gfa, gsa, gca, -⟩ := id hD
  have k12 := rv_cn_le R 12
  refine ⟨Nat.le_of_ble_eq_true rfl, ?_⟩
  show wz (d + 6) mt_X1_readRow.2.2.2.2.1 Q mt_X1_readRow.2.2.2.2.1 [some (.inr (.inr (some dl))), some (.inr (.inr (some tp))), some (.inr (.inr (some pl))), none, none] [] G M _ _
  refine w_aln rfl ?_
  refine w_gr gtp rfl (by decide) rfl (e9) ?_
  refine w_asn ?_
  show wz _ _ _ _ [some (.inr (.inr (some dl))), some (.inr (.inr (some tp))), some (.inr (.inr (some pl))), some (.inr (.inr (some w))), none] _ _ _ _ _
  refine w_aln rfl ?_
  refine w_gs ?_
  intro a1 ga1
  have ga1 : G a1 = (910050, 0) := ga1
  refine w_aceq (fun c2 => ?_) (fun c2 => ?_)
  · exact absurd (Option.some.inj c2) (hn_ne gw ga1 (by decide))
  · skip
    refine w_aln rfl ?_
    refine w_gs ?_
    intro a3 ga3
    have ga3 : G a3 = (911050, 0) := ga3
    refine w_aceq (fun c4 => ?_) (fun c4 => ?_)
    · exact absurd (Option.some.inj c4) (hn_ne gw ga3 (by decide))
    · skip
      refine w_aln rfl ?_
      refine w_ic ?_
      refine w_cv (st := []) rfl gtp rfl (Nat.le_of_ble_eq_true rfl) (fun kk h => h) (r_X7_refuse (d := d + 5) hA hS (by decide) (fun MF5 F5 => ?_))
      exact w_iret (fun _ => Or.inl rfl) (h10 _ F5)
set_option maxHeartbeats 8000000 in
theorem r_dr_10 {G : mj_G} {M0 M : mj_M} {B : Nat → Int} {n lim tp bc pl na ta ba wa oa : Nat} {tr br : Nat → Nat} {T : Nat → Nat × Nat × Int × List Int × Nat} {PL WA OA : Nat → Int} {TO BI : Nat → Nat → Int} {nm : Nat → List Int} {Q : mj_P} {d q : Nat} {dl fa sa ca : Nat} {R : Nat → Int} (hA : rv_AT G M0 B n lim tp bc pl na ta ba wa oa tr br T) (hS : rv_S G M0 n lim tp pl na wa oa tr br (T q) PL WA OA TO BI nm M) (hqn : q ≤ n) (hD : rv_D G M0 dl fa sa ca) (hR : rv_DR M0 fa sa ca R) (hdb : rv_db (PL 4) R) (hb : rv_pb PL) (h3 : M0.1 dl 3 = (rv_cn R 12 : Int)) {w : Nat} (gw : G w = (910050, 0)) (e9 : M.2.2 tp 9 = some w) (h : sp_dlet T nm (PL 4) R q (fun f a => ∀ M', rv_F tp pl na wa oa tr br M0 f a M' → Q (some (.inl 0)) G M') (fun R' q' => q ≤ q' → q' ≤ n → rv_db (PL 4) R' → rv_cn R' 12 = rv_cn R 12 + 1 → ∀ M0' M', rv_AT G M0' B n lim tp bc pl na ta ba wa oa tr br T → rv_dfo dl fa sa ca M0 M0' → rv_S G M0' n lim tp pl na wa oa tr br (T q') PL WA OA TO BI nm M' → rv_DR M0' fa sa ca R' → M0'.1 dl 3 = M0.1 dl 3 + 1 → Q (some (.inl 1)) G M')) : mj_R mj_tab (d + 7) 21 [.inr (.inr (some dl)), .inr (.inr (some tp)), .inr (.inr (some pl))] G M Q := by
  obtain ⟨⟨gtp, gbc, gpl, gna, gta, gba, gwa, goa, gtr, gbr, itr, ibr, r1, r2, r3, r4, r5, r6, r7, r8, rb, rw0, n1, n2, hIw⟩, hT⟩ := id hA
  obtain ⟨b1, b2, b3, b4⟩ := id hb
  obtain ⟨gdl, gfa, gsa, gca, -⟩ := id hD
  have k12 := rv_cn_le R 12
  unfold sp_dlet at h
  refine ⟨Nat.le_of_ble_eq_true rfl, ?_⟩
  show wz (d + 6) mt_X1_readRow.2.2.2.2.1 Q mt_X1_readRow.2.2.2.2.1 [some (.inr (.inr (some dl))), some (.inr (.inr (some tp))), some (.inr (.inr (some pl))), none, none] [] G M _ _
  refine w_aln rfl ?_
  refine w_gr gtp rfl (by decide) rfl (e9) ?_
  refine w_asn ?_
  show wz _ _ _ _ [some (.inr (.inr (some dl))), some (.inr (.inr (some tp))), some (.inr (.inr (some pl))), some (.inr (.inr (some w))), none] _ _ _ _ _
  refine w_aln rfl ?_
  refine w_gs ?_
  intro a1 ga1
  have ga1 : G a1 = (910050, 0) := ga1
  refine w_aceq (fun c2 => ?_) (fun c2 => ?_)
  · skip
    refine w_aln rfl ?_
    refine w_ic ?_
    refine w_bp ?_
    refine w_cv (st := []) rfl gtp rfl (Nat.le_of_ble_eq_true rfl) (fun kk h => h) (r_X7_nextNumber (d := d + 2) hA hS hqn (sp_num.mono h (fun fk3 ak3 hfk3 Mk3 Fk3 => ?_) (fun bk3 ck3 ek3 hvk3 Mk3 sk3 => ?_)))
    · skip
      refine w_is ?_
      show wz _ _ _ _ [some (.inr (.inr (some dl))), some (.inr (.inr (some tp))), some (.inr (.inr (some pl))), some (.inr (.inr (some w))), some (.inl (-1))] _ _ _ _ _
      refine w_il rfl ?_
      refine w_ic ?_
      refine w_cmne (fun c4 => ?_) (fun c4 => ?_)
      · exfalso; omega
      · skip
        refine w_ic ?_
        exact w_iret (fun _ => Or.inl rfl) (hfk3 _ Fk3)
    · skip
      refine w_is ?_
      show wz _ _ _ _ [some (.inr (.inr (some dl))), some (.inr (.inr (some tp))), some (.inr (.inr (some pl))), some (.inr (.inr (some w))), some (.inl ((T (rv_x T q)).2.2.1))] _ _ _ _ _
      refine w_il rfl ?_
      refine w_ic ?_
      refine w_cmne (fun c5 => ?_) (fun c5 => ?_)
      · skip
        refine w_aln rfl ?_
        refine w_il rfl ?_
        refine w_cv (st := []) rfl gdl rfl (Nat.le_of_ble_eq_true rfl) (fun kk h => h) ⟨Nat.le_of_ble_eq_true rfl, ?_⟩
        show wz (d + 5) mt_X1_tells.2.2.2.2.1 _ mt_X1_tells.2.2.2.2.1 [some (.inr (.inr (some dl))), some (.inl ((T (rv_x T q)).2.2.1))] [] _ _ _ _
        refine w_aln rfl ?_
        refine w_gr gdl rfl (by decide) rfl (sk3.rq gdl gtp (by decide) hD.2.2.2.2.1) ?_
        refine w_iln rfl ?_
        refine w_iald (v := ((R (3 * ((T (rv_x T q)).2.2.1).toNat)) - 1)) gfa rfl (by show (0 : Int) ≤ (T (rv_x T q)).2.2.1; omega) (by show (T (rv_x T q)).2.2.1 < ((12 : Nat) : Int); omega) ((congrFun (rv_S.fx hA sk3 gfa (by decide)) _).trans (hR _ (by omega)).1) ?_
        refine w_ic ?_
        refine w_cmeq (fun c6 => ?_) (fun c6 => ?_)
        · skip
          refine w_ic ?_
          refine w_iret (fun _ => Or.inl rfl) ?_
          refine w_ifeq (fun c7 => ?_) (fun c7 => ?_)
          · skip
            refine w_aln rfl ?_
            refine w_gs ?_
            intro a8 ga8
            have ga8 : G a8 = (910050, 0) := ga8
            refine w_acne (fun c9 => ?_) (fun c9 => ?_)
            · exact absurd (congrArg some (hIw _ _ ((congrArg (fun x => x.1 % 1000) gw).trans rfl) (gw.trans ga8.symm))) c9
            · skip
              refine w_aln rfl ?_
              refine w_aln rfl ?_
              refine w_aln rfl ?_
              refine w_il rfl ?_
              refine w_cv (st := []) rfl gdl rfl (Nat.le_of_ble_eq_true rfl) (fun kk h => h) ⟨Nat.le_of_ble_eq_true rfl, ?_⟩
              show wz (d + 5) mt_X1_readLet.2.2.2.2.1 _ mt_X1_readLet.2.2.2.2.1 [some (.inr (.inr (some dl))), some (.inr (.inr (some tp))), some (.inr (.inr (some pl))), some (.inl ((T (rv_x T q)).2.2.1)), none, none, none] [] _ _ _ _
              refine w_aln rfl ?_
              refine w_aln rfl ?_
              refine w_cv (st := []) rfl gpl rfl (Nat.le_of_ble_eq_true rfl) (fun kk h => h) ⟨Nat.le_of_ble_eq_true rfl, ?_⟩
              show wz (d + 4) mt_X3_nextTown.2.2.2.2.1 _ mt_X3_nextTown.2.2.2.2.1 [some (.inr (.inr (some pl))), some (.inr (.inr (some tp)))] [] _ _ _ _
              refine w_aln rfl ?_
              refine w_cv (st := []) rfl gtp rfl (Nat.le_of_ble_eq_true rfl) (fun kk h => h) (r_adv2 (d := d + 1) hA sk3 (rv_x_le hA hqn) (fun Ms10 s10 => ?_))
              refine w_aln rfl ?_
              refine w_aln rfl ?_
              refine w_cv (st := []) rfl gpl rfl (Nat.le_of_ble_eq_true rfl) (fun kk h => h) ⟨Nat.le_of_ble_eq_true rfl, ?_⟩
              show wz (d + 3) mt_X3_townHere.2.2.2.2.1 _ mt_X3_townHere.2.2.2.2.1 [some (.inr (.inr (some pl))), some (.inr (.inr (some tp))), none] [] _ _ _ _
              refine w_aln rfl ?_
              have h11 := hvk3.1 (by omega)
              clear hvk3
              refine w_cv (st := []) rfl gtp rfl (Nat.le_of_ble_eq_true rfl) (fun kk h => h) (r_X7_nameHere (d := d + 1) hA s10 (rv_x_le hA (rv_x_le hA hqn)) (sp_nam.mono h11 (fun fk12 ak12 hfk12 Mk12 Fk12 => ?_) (fun bk12 ck12 hvk12 => ?_)))
              · skip
                refine w_ifne (fun c13 => ?_) (fun c13 => ?_)
                · exfalso; omega
                · skip
                  refine w_ic ?_
                  refine w_iret (fun q => by cases q) ?_
                  refine w_iret (fun q => by cases q) ?_
                  refine w_is ?_
                  show wz _ _ _ _ [some (.inr (.inr (some dl))), some (.inr (.inr (some tp))), some (.inr (.inr (some pl))), some (.inl ((T (rv_x T q)).2.2.1)), some (.inl (-1)), none, none] _ _ _ _ _
                  refine w_il rfl ?_
                  refine w_ic ?_
                  refine w_cmne (fun c14 => ?_) (fun c14 => ?_)
                  · exfalso; omega
                  · skip
                    refine w_ic ?_
                    refine w_iret (fun _ => Or.inl rfl) ?_
                    exact w_iret (fun _ => Or.inl rfl) (hfk12 _ Fk12)
              · skip
                refine w_ifne (fun c15 => ?_) (fun c15 => ?_)
                · skip
                  refine w_aln rfl ?_
                  refine w_aln rfl ?_
                  refine w_gl gtp rfl (by decide) rfl ((s10.2.1.2.2.2.2.2.1 (by omega)).1) ?_
                  refine w_cv (st := []) rfl gpl rfl (Nat.le_of_ble_eq_true rfl) (fun kk h => h) (r_X3_find (d := d + 2) hA s10 hb (rv_x_wo hA (rv_x_le hA (rv_x_le hA hqn)) (by omega)) (sp_find.mono hvk12 (fun rk16 lk16 ck16 mk16 hvk16 => ?_) (fun mk16 hvk16 => ?_)))
                  · skip
                    refine w_isn ?_
                    show wz _ _ _ _ [some (.inr (.inr (some pl))), some (.inr (.inr (some tp))), some (.inl ((rk16 : Nat) : Int))] _ _ _ _ _
                    refine w_iln rfl ?_
                    refine w_ic ?_
                    refine w_cmne (fun c17 => ?_) (fun c17 => ?_)
                    · skip
                      refine w_iln rfl ?_
                      refine w_iret (fun q => by cases q) ?_
                      refine w_iret (fun q => by cases q) ?_
                      refine w_is ?_
                      show wz _ _ _ _ [some (.inr (.inr (some dl))), some (.inr (.inr (some tp))), some (.inr (.inr (some pl))), some (.inl ((T (rv_x T q)).2.2.1)), some (.inl ((rk16 : Nat) : Int)), none, none] _ _ _ _ _
                      refine w_il rfl ?_
                      refine w_ic ?_
                      refine w_cmne (fun c18 => ?_) (fun c18 => ?_)
                      · skip
                        refine w_ic ?_
                        refine w_is ?_
                        show wz _ _ _ _ [some (.inr (.inr (some dl))), some (.inr (.inr (some tp))), some (.inr (.inr (some pl))), some (.inl ((T (rv_x T q)).2.2.1)), some (.inl ((rk16 : Nat) : Int)), some (.inl (-1)), none] _ _ _ _ _
                        refine w_aln rfl ?_
                        refine w_cv (st := []) rfl gtp rfl (Nat.le_of_ble_eq_true rfl) (fun kk h => h) (r_adv2 (d := d + 2) hA s10 (rv_x_le hA (rv_x_le hA hqn)) (fun Ms19 s19 => ?_))
                        refine w_aln rfl ?_
                        have t20 := s19.2.1.1
                        refine w_gi gtp rfl (by decide) rfl (rfl) ?_
                        refine w_ic ?_
                        refine w_cmne (fun c21 => ?_) (fun c21 => ?_)
                        · skip
                          refine w_aln rfl ?_
                          refine w_ic ?_
                          refine w_sp ?_
                          have h22 := hvk16.2 (by omega)
                          clear hvk16
                          have h23 := h22.2 (by omega)
                          clear h22
                          refine w_cv (st := []) rfl gtp rfl (Nat.le_of_ble_eq_true rfl) (fun kk h => h) (r_X7_numberHere (d := d + 3) hA s19 (sp_num.mono h23 (fun fk24 ak24 hfk24 Mk24 Fk24 => ?_) (fun bk24 ck24 ek24 hvk24 Mk24 sk24 => ?_)))
                          · skip
                            refine w_is ?_
                            show wz _ _ _ _ [some (.inr (.inr (some dl))), some (.inr (.inr (some tp))), some (.inr (.inr (some pl))), some (.inl ((T (rv_x T q)).2.2.1)), some (.inl ((rk16 : Nat) : Int)), some (.inl (-1)), some (.inl (-1))] _ _ _ _ _
                            refine w_il rfl ?_
                            refine w_ic ?_
                            refine w_cmne (fun c25 => ?_) (fun c25 => ?_)
                            · exfalso; omega
                            · skip
                              refine w_ic ?_
                              refine w_iret (fun _ => Or.inl rfl) ?_
                              exact w_iret (fun _ => Or.inl rfl) (hfk24 _ Fk24)
                          · skip
                            refine w_is ?_
                            show wz _ _ _ _ [some (.inr (.inr (some dl))), some (.inr (.inr (some tp))), some (.inr (.inr (some pl))), some (.inl ((T (rv_x T q)).2.2.1)), some (.inl ((rk16 : Nat) : Int)), some (.inl (-1)), some (.inl ((T (rv_x T (rv_x T (rv_x T q)))).2.2.1))] _ _ _ _ _
                            refine w_il rfl ?_
                            refine w_ic ?_
                            refine w_cmne (fun c26 => ?_) (fun c26 => ?_)
                            · skip
                              refine w_aln rfl ?_
                              refine w_iln rfl ?_
                              refine w_il rfl ?_
                              refine w_il rfl ?_
                              refine w_il rfl ?_
                              have ck27 := rv_cn_lt (R := R) (j := ((T (rv_x T q)).2.2.1).toNat) (by omega) 12 (by omega)
                              refine w_cv (st := []) rfl gdl rfl (Nat.le_of_ble_eq_true rfl) (fun kk h => h) (r_X1_tell (d := d + 4) hA sk24 hD (j := ((T (rv_x T q)).2.2.1).toNat) (by omega) (by omega) (by omega) (fun N0k27 Nk27 Ak27 ok27 sk27 e1k27 e2k27 e3k27 e4k27 => ?_))
                              refine w_ic ?_
                              refine w_iret (fun _ => Or.inr rfl) ?_
                              have h0 : R (3 * ((T (rv_x T q)).2.2.1).toNat) = 0 := by omega
                              have hz := hdb.z (j := ((T (rv_x T q)).2.2.1).toNat) (by omega) h0
                              have ht : rv_dt3 R (rv_up (rv_up R (3 * ((T (rv_x T q)).2.2.1).toNat) (((rk16 : Nat) : Int) + 1)) (3 * ((T (rv_x T q)).2.2.1).toNat + 2) (T (rv_x T (rv_x T (rv_x T q)))).2.2.1) ((T (rv_x T q)).2.2.1).toNat (((rk16 : Nat) : Int) + 1) ((-1) + 1) ((T (rv_x T (rv_x T (rv_x T q)))).2.2.1) := rv_dt3.eq (rv_dt3_2 (R := R) (j := ((T (rv_x T q)).2.2.1).toNat) hz.1) (by omega) (by omega) (by omega)
                              exact w_iret (fun _ => Or.inr rfl) (hvk24 (Nat.le_trans (Nat.le_trans (Nat.le_trans (Nat.le_refl q) (rv_x_ge hA hqn)) (rv_x_ge hA (rv_x_le hA hqn))) (rv_x_ge hA (rv_x_le hA (rv_x_le hA hqn)))) (rv_x_le hA (rv_x_le hA (rv_x_le hA hqn))) (hdb.set ht.1 (by rw [ht.2.1, ht.2.2.1, ht.2.2.2]; unfold rv_d3; omega)) ((rv_cn_set ht.1 h0 (by rw [ht.2.1]; omega) 12).trans (by rw [if_pos (by omega)])) N0k27 Nk27 Ak27 ok27 sk27 (hR.set ht e1k27 e2k27 e3k27) e4k27)
                            · exfalso; omega
                        · skip
                          refine w_aln rfl ?_
                          refine w_aln rfl ?_
                          refine w_cv (st := []) rfl gpl rfl (Nat.le_of_ble_eq_true rfl) (fun kk h => h) ⟨Nat.le_of_ble_eq_true rfl, ?_⟩
                          show wz (d + 4) mt_X3_townHere.2.2.2.2.1 _ mt_X3_townHere.2.2.2.2.1 [some (.inr (.inr (some pl))), some (.inr (.inr (some tp))), none] [] _ _ _ _
                          refine w_aln rfl ?_
                          have h28 := hvk16.2 (by omega)
                          clear hvk16
                          have h29 := h28.1 (by omega)
                          clear h28
                          refine w_cv (st := []) rfl gtp rfl (Nat.le_of_ble_eq_true rfl) (fun kk h => h) (r_X7_nameHere (d := d + 2) hA s19 (rv_x_le hA (rv_x_le hA (rv_x_le hA hqn))) (sp_nam.mono h29 (fun fk30 ak30 hfk30 Mk30 Fk30 => ?_) (fun bk30 ck30 hvk30 => ?_)))
                          · skip
                            refine w_ifne (fun c31 => ?_) (fun c31 => ?_)
                            · exfalso; omega
                            · skip
                              refine w_ic ?_
                              refine w_iret (fun q => by cases q) ?_
                              refine w_is ?_
                              show wz _ _ _ _ [some (.inr (.inr (some dl))), some (.inr (.inr (some tp))), some (.inr (.inr (some pl))), some (.inl ((T (rv_x T q)).2.2.1)), some (.inl ((rk16 : Nat) : Int)), some (.inl (-1)), none] _ _ _ _ _
                              refine w_il rfl ?_
                              refine w_ic ?_
                              refine w_cmne (fun c32 => ?_) (fun c32 => ?_)
                              · exfalso; omega
                              · skip
                                refine w_ic ?_
                                refine w_iret (fun _ => Or.inl rfl) ?_
                                exact w_iret (fun _ => Or.inl rfl) (hfk30 _ Fk30)
                          · skip
                            refine w_ifne (fun c33 => ?_) (fun c33 => ?_)
                            · skip
                              refine w_aln rfl ?_
                              refine w_aln rfl ?_
                              refine w_gl gtp rfl (by decide) rfl ((s19.2.1.2.2.2.2.2.1 (by omega)).1) ?_
                              refine w_cv (st := []) rfl gpl rfl (Nat.le_of_ble_eq_true rfl) (fun kk h => h) (r_X3_find (d := d + 3) hA s19 hb (rv_x_wo hA (rv_x_le hA (rv_x_le hA (rv_x_le hA hqn))) (by omega)) (sp_find.mono hvk30 (fun rk34 lk34 ck34 mk34 hvk34 => ?_) (fun mk34 hvk34 => ?_)))
                              · skip
                                refine w_isn ?_
                                show wz _ _ _ _ [some (.inr (.inr (some pl))), some (.inr (.inr (some tp))), some (.inl ((rk34 : Nat) : Int))] _ _ _ _ _
                                refine w_iln rfl ?_
                                refine w_ic ?_
                                refine w_cmne (fun c35 => ?_) (fun c35 => ?_)
                                · skip
                                  refine w_iln rfl ?_
                                  refine w_iret (fun q => by cases q) ?_
                                  refine w_is ?_
                                  show wz _ _ _ _ [some (.inr (.inr (some dl))), some (.inr (.inr (some tp))), some (.inr (.inr (some pl))), some (.inl ((T (rv_x T q)).2.2.1)), some (.inl ((rk16 : Nat) : Int)), some (.inl ((rk34 : Nat) : Int)), none] _ _ _ _ _
                                  refine w_il rfl ?_
                                  refine w_ic ?_
                                  refine w_cmne (fun c36 => ?_) (fun c36 => ?_)
                                  · skip
                                    refine w_il rfl ?_
                                    refine w_il rfl ?_
                                    refine w_cmne (fun c37 => ?_) (fun c37 => ?_)
                                    · skip
                                      refine w_aln rfl ?_
                                      refine w_cv (st := []) rfl gtp rfl (Nat.le_of_ble_eq_true rfl) (fun kk h => h) (r_adv2 (d := d + 2) hA s19 (rv_x_le hA (rv_x_le hA (rv_x_le hA hqn))) (fun Ms38 s38 => ?_))
                                      refine w_aln rfl ?_
                                      refine w_ic ?_
                                      refine w_sp ?_
                                      have h39 := hvk34.2 (by omega)
                                      clear hvk34
                                      have h40 := h39.2 (by omega)
                                      clear h39
                                      refine w_cv (st := []) rfl gtp rfl (Nat.le_of_ble_eq_true rfl) (fun kk h => h) (r_X7_numberHere (d := d + 3) hA s38 (sp_num.mono h40 (fun fk41 ak41 hfk41 Mk41 Fk41 => ?_) (fun bk41 ck41 ek41 hvk41 Mk41 sk41 => ?_)))
                                      · skip
                                        refine w_is ?_
                                        show wz _ _ _ _ [some (.inr (.inr (some dl))), some (.inr (.inr (some tp))), some (.inr (.inr (some pl))), some (.inl ((T (rv_x T q)).2.2.1)), some (.inl ((rk16 : Nat) : Int)), some (.inl ((rk34 : Nat) : Int)), some (.inl (-1))] _ _ _ _ _
                                        refine w_il rfl ?_
                                        refine w_ic ?_
                                        refine w_cmne (fun c42 => ?_) (fun c42 => ?_)
                                        · exfalso; omega
                                        · skip
                                          refine w_ic ?_
                                          refine w_iret (fun _ => Or.inl rfl) ?_
                                          exact w_iret (fun _ => Or.inl rfl) (hfk41 _ Fk41)
                                      · skip
                                        refine w_is ?_
                                        show wz _ _ _ _ [some (.inr (.inr (some dl))), some (.inr (.inr (some tp))), some (.inr (.inr (some pl))), some (.inl ((T (rv_x T q)).2.2.1)), some (.inl ((rk16 : Nat) : Int)), some (.inl ((rk34 : Nat) : Int)), some (.inl ((T (rv_x T (rv_x T (rv_x T (rv_x T q))))).2.2.1))] _ _ _ _ _
                                        refine w_il rfl ?_
                                        refine w_ic ?_
                                        refine w_cmne (fun c43 => ?_) (fun c43 => ?_)
                                        · skip
                                          refine w_aln rfl ?_
                                          refine w_iln rfl ?_
                                          refine w_il rfl ?_
                                          refine w_il rfl ?_
                                          refine w_il rfl ?_
                                          have ck44 := rv_cn_lt (R := R) (j := ((T (rv_x T q)).2.2.1).toNat) (by omega) 12 (by omega)
                                          refine w_cv (st := []) rfl gdl rfl (Nat.le_of_ble_eq_true rfl) (fun kk h => h) (r_X1_tell (d := d + 4) hA sk41 hD (j := ((T (rv_x T q)).2.2.1).toNat) (by omega) (by omega) (by omega) (fun N0k44 Nk44 Ak44 ok44 sk44 e1k44 e2k44 e3k44 e4k44 => ?_))
                                          refine w_ic ?_
                                          refine w_iret (fun _ => Or.inr rfl) ?_
                                          have h0 : R (3 * ((T (rv_x T q)).2.2.1).toNat) = 0 := by omega
                                          have ht : rv_dt3 R (rv_up (rv_up (rv_up R (3 * ((T (rv_x T q)).2.2.1).toNat) (((rk16 : Nat) : Int) + 1)) (3 * ((T (rv_x T q)).2.2.1).toNat + 1) (((rk34 : Nat) : Int) + 1)) (3 * ((T (rv_x T q)).2.2.1).toNat + 2) (T (rv_x T (rv_x T (rv_x T (rv_x T q))))).2.2.1) ((T (rv_x T q)).2.2.1).toNat (((rk16 : Nat) : Int) + 1) (((rk34 : Nat) : Int) + 1) ((T (rv_x T (rv_x T (rv_x T (rv_x T q))))).2.2.1) := rv_dt3.eq (rv_dt3_3 (R := R) (j := ((T (rv_x T q)).2.2.1).toNat)) (by omega) (by omega) (by omega)
                                          exact w_iret (fun _ => Or.inr rfl) (hvk41 (Nat.le_trans (Nat.le_trans (Nat.le_trans (Nat.le_trans (Nat.le_refl q) (rv_x_ge hA hqn)) (rv_x_ge hA (rv_x_le hA hqn))) (rv_x_ge hA (rv_x_le hA (rv_x_le hA hqn)))) (rv_x_ge hA (rv_x_le hA (rv_x_le hA (rv_x_le hA hqn))))) (rv_x_le hA (rv_x_le hA (rv_x_le hA (rv_x_le hA hqn)))) (hdb.set ht.1 (by rw [ht.2.1, ht.2.2.1, ht.2.2.2]; unfold rv_d3; omega)) ((rv_cn_set ht.1 h0 (by rw [ht.2.1]; omega) 12).trans (by rw [if_pos (by omega)])) N0k44 Nk44 Ak44 ok44 sk44 (hR.set ht e1k44 e2k44 e3k44) e4k44)
                                        · exfalso; omega
                                    · skip
                                      refine w_aln rfl ?_
                                      refine w_ic ?_
                                      have h46 := hvk34.2 (by omega)
                                      clear hvk34
                                      have h47 := h46.1 (by omega)
                                      clear h46
                                      refine w_cv (st := []) rfl gtp rfl (Nat.le_of_ble_eq_true rfl) (fun kk h => h) (r_X7_refuse (d := d + 4) hA s19 (by decide) (fun MF45 F45 => ?_))
                                      refine w_iret (fun _ => Or.inl rfl) ?_
                                      exact w_iret (fun _ => Or.inl rfl) (h47 _ F45)
                                  · exfalso; omega
                                · exfalso; omega
                              · skip
                                refine w_isn ?_
                                show wz _ _ _ _ [some (.inr (.inr (some pl))), some (.inr (.inr (some tp))), some (.inl (-1))] _ _ _ _ _
                                refine w_iln rfl ?_
                                refine w_ic ?_
                                refine w_cmne (fun c48 => ?_) (fun c48 => ?_)
                                · exfalso; omega
                                · skip
                                  refine w_aln rfl ?_
                                  refine w_ic ?_
                                  have h50 := hvk34.1 (by omega)
                                  clear hvk34
                                  refine w_cv (st := []) rfl gtp rfl (Nat.le_of_ble_eq_true rfl) (fun kk h => h) (r_X7_refuse (d := d + 3) hA s19 (by decide) (fun MF49 F49 => ?_))
                                  refine w_pop ?_
                                  refine w_iln rfl ?_
                                  refine w_iret (fun q => by cases q) ?_
                                  refine w_is ?_
                                  show wz _ _ _ _ [some (.inr (.inr (some dl))), some (.inr (.inr (some tp))), some (.inr (.inr (some pl))), some (.inl ((T (rv_x T q)).2.2.1)), some (.inl ((rk16 : Nat) : Int)), some (.inl (-1)), none] _ _ _ _ _
                                  refine w_il rfl ?_
                                  refine w_ic ?_
                                  refine w_cmne (fun c51 => ?_) (fun c51 => ?_)
                                  · exfalso; omega
                                  · skip
                                    refine w_ic ?_
                                    refine w_iret (fun _ => Or.inl rfl) ?_
                                    exact w_iret (fun _ => Or.inl rfl) (h50 _ F49)
                            · exfalso; omega
                      · exfalso; omega
                    · exfalso; omega
                  · skip
                    refine w_isn ?_
                    show wz _ _ _ _ [some (.inr (.inr (some pl))), some (.inr (.inr (some tp))), some (.inl (-1))] _ _ _ _ _
                    refine w_iln rfl ?_
                    refine w_ic ?_
                    refine w_cmne (fun c52 => ?_) (fun c52 => ?_)
                    · exfalso; omega
                    · skip
                      refine w_aln rfl ?_
                      refine w_ic ?_
                      have h54 := hvk16.1 (by omega)
                      clear hvk16
                      refine w_cv (st := []) rfl gtp rfl (Nat.le_of_ble_eq_true rfl) (fun kk h => h) (r_X7_refuse (d := d + 2) hA s10 (by decide) (fun MF53 F53 => ?_))
                      refine w_pop ?_
                      refine w_iln rfl ?_
                      refine w_iret (fun q => by cases q) ?_
                      refine w_iret (fun q => by cases q) ?_
                      refine w_is ?_
                      show wz _ _ _ _ [some (.inr (.inr (some dl))), some (.inr (.inr (some tp))), some (.inr (.inr (some pl))), some (.inl ((T (rv_x T q)).2.2.1)), some (.inl (-1)), none, none] _ _ _ _ _
                      refine w_il rfl ?_
                      refine w_ic ?_
                      refine w_cmne (fun c55 => ?_) (fun c55 => ?_)
                      · exfalso; omega
                      · skip
                        refine w_ic ?_
                        refine w_iret (fun _ => Or.inl rfl) ?_
                        exact w_iret (fun _ => Or.inl rfl) (h54 _ F53)
                · exfalso; omega
          · exfalso; omega
        · skip
          refine w_ic ?_
          refine w_goto ?_
          refine w_iret (fun _ => Or.inr rfl) ?_
          refine w_ifeq (fun c56 => ?_) (fun c56 => ?_)
          · exfalso; omega
          · skip
            refine w_aln rfl ?_
            refine w_ic ?_
            have h58 := hvk3.2 (by omega)
            clear hvk3
            refine w_cv (st := []) rfl gtp rfl (Nat.le_of_ble_eq_true rfl) (fun kk h => h) (r_X7_refuse (d := d + 5) hA sk3 (by decide) (fun MF57 F57 => ?_))
            exact w_iret (fun _ => Or.inl rfl) (h58 _ F57)
      · exfalso; omega
  · exact absurd (congrArg some (hIw _ _ ((congrArg (fun x => x.1 % 1000) gw).trans rfl) (gw.trans ga1.symm))) c2
set_option maxHeartbeats 8000000 in
theorem r_dr_11 {G : mj_G} {M0 M : mj_M} {B : Nat → Int} {n lim tp bc pl na ta ba wa oa : Nat} {tr br : Nat → Nat} {T : Nat → Nat × Nat × Int × List Int × Nat} {PL WA OA : Nat → Int} {TO BI : Nat → Nat → Int} {nm : Nat → List Int} {Q : mj_P} {d q : Nat} {dl fa sa ca : Nat} {R : Nat → Int} (hA : rv_AT G M0 B n lim tp bc pl na ta ba wa oa tr br T) (hS : rv_S G M0 n lim tp pl na wa oa tr br (T q) PL WA OA TO BI nm M) (hqn : q ≤ n) (hD : rv_D G M0 dl fa sa ca) (hR : rv_DR M0 fa sa ca R) (hdb : rv_db (PL 4) R) (hb : rv_pb PL) (h3 : M0.1 dl 3 = (rv_cn R 12 : Int)) {w : Nat} (gw : G w = (911050, 0)) (e9 : M.2.2 tp 9 = some w) (h : sp_dsea T nm (PL 4) R q (fun f a => ∀ M', rv_F tp pl na wa oa tr br M0 f a M' → Q (some (.inl 0)) G M') (fun R' q' => q ≤ q' → q' ≤ n → rv_db (PL 4) R' → rv_cn R' 12 = rv_cn R 12 + 1 → ∀ M0' M', rv_AT G M0' B n lim tp bc pl na ta ba wa oa tr br T → rv_dfo dl fa sa ca M0 M0' → rv_S G M0' n lim tp pl na wa oa tr br (T q') PL WA OA TO BI nm M' → rv_DR M0' fa sa ca R' → M0'.1 dl 3 = M0.1 dl 3 + 1 → Q (some (.inl 1)) G M')) : mj_R mj_tab (d + 7) 21 [.inr (.inr (some dl)), .inr (.inr (some tp)), .inr (.inr (some pl))] G M Q := by
  obtain ⟨⟨gtp, gbc, gpl, gna, gta, gba, gwa, goa, gtr, gbr, itr, ibr, r1, r2, r3, r4, r5, r6, r7, r8, rb, rw0, n1, n2, hIw⟩, hT⟩ := id hA
  obtain ⟨b1, b2, b3, b4⟩ := id hb
  obtain ⟨gdl, gfa, gsa, gca, -⟩ := id hD
  have k12 := rv_cn_le R 12
  unfold sp_dsea at h
  refine ⟨Nat.le_of_ble_eq_true rfl, ?_⟩
  show wz (d + 6) mt_X1_readRow.2.2.2.2.1 Q mt_X1_readRow.2.2.2.2.1 [some (.inr (.inr (some dl))), some (.inr (.inr (some tp))), some (.inr (.inr (some pl))), none, none] [] G M _ _
  refine w_aln rfl ?_
  refine w_gr gtp rfl (by decide) rfl (e9) ?_
  refine w_asn ?_
  show wz _ _ _ _ [some (.inr (.inr (some dl))), some (.inr (.inr (some tp))), some (.inr (.inr (some pl))), some (.inr (.inr (some w))), none] _ _ _ _ _
  refine w_aln rfl ?_
  refine w_gs ?_
  intro a1 ga1
  have ga1 : G a1 = (910050, 0) := ga1
  refine w_aceq (fun c2 => ?_) (fun c2 => ?_)
  · exact absurd (Option.some.inj c2) (hn_ne gw ga1 (by decide))
  · skip
    refine w_aln rfl ?_
    refine w_gs ?_
    intro a3 ga3
    have ga3 : G a3 = (911050, 0) := ga3
    refine w_aceq (fun c4 => ?_) (fun c4 => ?_)
    · skip
      refine w_aln rfl ?_
      refine w_ic ?_
      refine w_bp ?_
      refine w_cv (st := []) rfl gtp rfl (Nat.le_of_ble_eq_true rfl) (fun kk h => h) (r_X7_nextNumber (d := d + 2) hA hS hqn (sp_num.mono h (fun fk5 ak5 hfk5 Mk5 Fk5 => ?_) (fun bk5 ck5 ek5 hvk5 Mk5 sk5 => ?_)))
      · skip
        refine w_is ?_
        show wz _ _ _ _ [some (.inr (.inr (some dl))), some (.inr (.inr (some tp))), some (.inr (.inr (some pl))), some (.inr (.inr (some w))), some (.inl (-1))] _ _ _ _ _
        refine w_il rfl ?_
        refine w_ic ?_
        refine w_cmne (fun c6 => ?_) (fun c6 => ?_)
        · exfalso; omega
        · skip
          refine w_ic ?_
          exact w_iret (fun _ => Or.inl rfl) (hfk5 _ Fk5)
      · skip
        refine w_is ?_
        show wz _ _ _ _ [some (.inr (.inr (some dl))), some (.inr (.inr (some tp))), some (.inr (.inr (some pl))), some (.inr (.inr (some w))), some (.inl ((T (rv_x T q)).2.2.1))] _ _ _ _ _
        refine w_il rfl ?_
        refine w_ic ?_
        refine w_cmne (fun c7 => ?_) (fun c7 => ?_)
        · skip
          refine w_aln rfl ?_
          refine w_il rfl ?_
          refine w_cv (st := []) rfl gdl rfl (Nat.le_of_ble_eq_true rfl) (fun kk h => h) ⟨Nat.le_of_ble_eq_true rfl, ?_⟩
          show wz (d + 5) mt_X1_tells.2.2.2.2.1 _ mt_X1_tells.2.2.2.2.1 [some (.inr (.inr (some dl))), some (.inl ((T (rv_x T q)).2.2.1))] [] _ _ _ _
          refine w_aln rfl ?_
          refine w_gr gdl rfl (by decide) rfl (sk5.rq gdl gtp (by decide) hD.2.2.2.2.1) ?_
          refine w_iln rfl ?_
          refine w_iald (v := ((R (3 * ((T (rv_x T q)).2.2.1).toNat)) - 1)) gfa rfl (by show (0 : Int) ≤ (T (rv_x T q)).2.2.1; omega) (by show (T (rv_x T q)).2.2.1 < ((12 : Nat) : Int); omega) ((congrFun (rv_S.fx hA sk5 gfa (by decide)) _).trans (hR _ (by omega)).1) ?_
          refine w_ic ?_
          refine w_cmeq (fun c8 => ?_) (fun c8 => ?_)
          · skip
            refine w_ic ?_
            refine w_iret (fun _ => Or.inl rfl) ?_
            refine w_ifeq (fun c9 => ?_) (fun c9 => ?_)
            · skip
              refine w_aln rfl ?_
              refine w_gs ?_
              intro a10 ga10
              have ga10 : G a10 = (910050, 0) := ga10
              refine w_acne (fun c11 => ?_) (fun c11 => ?_)
              · skip
                refine w_aln rfl ?_
                refine w_il rfl ?_
                refine w_bp ?_
                refine w_ic ?_
                refine w_ic ?_
                have ck12 := rv_cn_lt (R := R) (j := ((T (rv_x T q)).2.2.1).toNat) (by omega) 12 (by omega)
                refine w_cv (st := []) rfl gdl rfl (Nat.le_of_ble_eq_true rfl) (fun kk h => h) (r_X1_tell (d := d + 5) hA sk5 hD (j := ((T (rv_x T q)).2.2.1).toNat) (by omega) (by omega) (by omega) (fun N0k12 Nk12 Ak12 ok12 sk12 e1k12 e2k12 e3k12 e4k12 => ?_))
                refine w_ic ?_
                have h13 := hvk5.1 (by omega)
                clear hvk5
                have h0 : R (3 * ((T (rv_x T q)).2.2.1).toNat) = 0 := by omega
                have hz := hdb.z (j := ((T (rv_x T q)).2.2.1).toNat) (by omega) h0
                have ht : rv_dt3 R (rv_up R (3 * ((T (rv_x T q)).2.2.1).toNat) 9) ((T (rv_x T q)).2.2.1).toNat (8 + 1) ((-1) + 1) 0 := rv_dt3.eq (rv_dt3_1 (R := R) (j := ((T (rv_x T q)).2.2.1).toNat) hz.1 hz.2) (by omega) (by omega) (by omega)
                exact w_iret (fun _ => Or.inr rfl) (h13 (Nat.le_trans (Nat.le_refl q) (rv_x_ge hA hqn)) (rv_x_le hA hqn) (hdb.set ht.1 (by rw [ht.2.1, ht.2.2.1, ht.2.2.2]; unfold rv_d3; omega)) ((rv_cn_set ht.1 h0 (by rw [ht.2.1]; omega) 12).trans (by rw [if_pos (by omega)])) N0k12 Nk12 Ak12 ok12 sk12 (hR.set ht e1k12 e2k12 e3k12) e4k12)
              · exact absurd (Option.some.inj c11) (hn_ne gw ga10 (by decide))
            · exfalso; omega
          · skip
            refine w_ic ?_
            refine w_goto ?_
            refine w_iret (fun _ => Or.inr rfl) ?_
            refine w_ifeq (fun c14 => ?_) (fun c14 => ?_)
            · exfalso; omega
            · skip
              refine w_aln rfl ?_
              refine w_ic ?_
              have h16 := hvk5.2 (by omega)
              clear hvk5
              refine w_cv (st := []) rfl gtp rfl (Nat.le_of_ble_eq_true rfl) (fun kk h => h) (r_X7_refuse (d := d + 5) hA sk5 (by decide) (fun MF15 F15 => ?_))
              exact w_iret (fun _ => Or.inl rfl) (h16 _ F15)
        · exfalso; omega
    · exact absurd (congrArg some (hIw _ _ ((congrArg (fun x => x.1 % 1000) gw).trans rfl) (gw.trans ga3.symm))) c4
set_option maxHeartbeats 8000000 in
theorem r_dr_12 {G : mj_G} {M0 M : mj_M} {B : Nat → Int} {n lim tp bc pl na ta ba wa oa : Nat} {tr br : Nat → Nat} {T : Nat → Nat × Nat × Int × List Int × Nat} {PL WA OA : Nat → Int} {TO BI : Nat → Nat → Int} {nm : Nat → List Int} {Q : mj_P} {d q : Nat} {dl fa sa ca : Nat} {R : Nat → Int} (hA : rv_AT G M0 B n lim tp bc pl na ta ba wa oa tr br T) (hS : rv_S G M0 n lim tp pl na wa oa tr br (T q) PL WA OA TO BI nm M) (hqn : q ≤ n) (hD : rv_D G M0 dl fa sa ca) (hR : rv_DR M0 fa sa ca R) (hdb : rv_db (PL 4) R) (hb : rv_pb PL) (h3 : M0.1 dl 3 = (rv_cn R 12 : Int)) {w : Nat} (gw : G w = (912050, 0)) (e9 : M.2.2 tp 9 = some w) (h10 : ∀ M', rv_F tp pl na wa oa tr br M0 1 (T q).2.1 M' → Q (some (.inl 0)) G M') : mj_R mj_tab (d + 7) 21 [.inr (.inr (some dl)), .inr (.inr (some tp)), .inr (.inr (some pl))] G M Q := by
  obtain ⟨⟨gtp, gbc, gpl, gna, gta, gba, gwa, goa, gtr, gbr, itr, ibr, r1, r2, r3, r4, r5, r6, r7, r8, rb, rw0, n1, n2, hIw⟩, hT⟩ := id hA
  obtain ⟨b1, b2, b3, b4⟩ := id hb
  obtain ⟨gdl, gfa, gsa, gca, -⟩ := id hD
  have k12 := rv_cn_le R 12
  refine ⟨Nat.le_of_ble_eq_true rfl, ?_⟩
  show wz (d + 6) mt_X1_readRow.2.2.2.2.1 Q mt_X1_readRow.2.2.2.2.1 [some (.inr (.inr (some dl))), some (.inr (.inr (some tp))), some (.inr (.inr (some pl))), none, none] [] G M _ _
  refine w_aln rfl ?_
  refine w_gr gtp rfl (by decide) rfl (e9) ?_
  refine w_asn ?_
  show wz _ _ _ _ [some (.inr (.inr (some dl))), some (.inr (.inr (some tp))), some (.inr (.inr (some pl))), some (.inr (.inr (some w))), none] _ _ _ _ _
  refine w_aln rfl ?_
  refine w_gs ?_
  intro a1 ga1
  have ga1 : G a1 = (910050, 0) := ga1
  refine w_aceq (fun c2 => ?_) (fun c2 => ?_)
  · exact absurd (Option.some.inj c2) (hn_ne gw ga1 (by decide))
  · skip
    refine w_aln rfl ?_
    refine w_gs ?_
    intro a3 ga3
    have ga3 : G a3 = (911050, 0) := ga3
    refine w_aceq (fun c4 => ?_) (fun c4 => ?_)
    · exact absurd (Option.some.inj c4) (hn_ne gw ga3 (by decide))
    · skip
      refine w_aln rfl ?_
      refine w_ic ?_
      refine w_cv (st := []) rfl gtp rfl (Nat.le_of_ble_eq_true rfl) (fun kk h => h) (r_X7_refuse (d := d + 5) hA hS (by decide) (fun MF5 F5 => ?_))
      exact w_iret (fun _ => Or.inl rfl) (h10 _ F5)
set_option maxHeartbeats 8000000 in
theorem r_dr_13 {G : mj_G} {M0 M : mj_M} {B : Nat → Int} {n lim tp bc pl na ta ba wa oa : Nat} {tr br : Nat → Nat} {T : Nat → Nat × Nat × Int × List Int × Nat} {PL WA OA : Nat → Int} {TO BI : Nat → Nat → Int} {nm : Nat → List Int} {Q : mj_P} {d q : Nat} {dl fa sa ca : Nat} {R : Nat → Int} (hA : rv_AT G M0 B n lim tp bc pl na ta ba wa oa tr br T) (hS : rv_S G M0 n lim tp pl na wa oa tr br (T q) PL WA OA TO BI nm M) (hqn : q ≤ n) (hD : rv_D G M0 dl fa sa ca) (hR : rv_DR M0 fa sa ca R) (hdb : rv_db (PL 4) R) (hb : rv_pb PL) (h3 : M0.1 dl 3 = (rv_cn R 12 : Int)) {w : Nat} (gw : G w = (913050, 0)) (e9 : M.2.2 tp 9 = some w) (h10 : ∀ M', rv_F tp pl na wa oa tr br M0 1 (T q).2.1 M' → Q (some (.inl 0)) G M') : mj_R mj_tab (d + 7) 21 [.inr (.inr (some dl)), .inr (.inr (some tp)), .inr (.inr (some pl))] G M Q := by
  obtain ⟨⟨gtp, gbc, gpl, gna, gta, gba, gwa, goa, gtr, gbr, itr, ibr, r1, r2, r3, r4, r5, r6, r7, r8, rb, rw0, n1, n2, hIw⟩, hT⟩ := id hA
  obtain ⟨b1, b2, b3, b4⟩ := id hb
  obtain ⟨gdl, gfa, gsa, gca, -⟩ := id hD
  have k12 := rv_cn_le R 12
  refine ⟨Nat.le_of_ble_eq_true rfl, ?_⟩
  show wz (d + 6) mt_X1_readRow.2.2.2.2.1 Q mt_X1_readRow.2.2.2.2.1 [some (.inr (.inr (some dl))), some (.inr (.inr (some tp))), some (.inr (.inr (some pl))), none, none] [] G M _ _
  refine w_aln rfl ?_
  refine w_gr gtp rfl (by decide) rfl (e9) ?_
  refine w_asn ?_
  show wz _ _ _ _ [some (.inr (.inr (some dl))), some (.inr (.inr (some tp))), some (.inr (.inr (some pl))), some (.inr (.inr (some w))), none] _ _ _ _ _
  refine w_aln rfl ?_
  refine w_gs ?_
  intro a1 ga1
  have ga1 : G a1 = (910050, 0) := ga1
  refine w_aceq (fun c2 => ?_) (fun c2 => ?_)
  · exact absurd (Option.some.inj c2) (hn_ne gw ga1 (by decide))
  · skip
    refine w_aln rfl ?_
    refine w_gs ?_
    intro a3 ga3
    have ga3 : G a3 = (911050, 0) := ga3
    refine w_aceq (fun c4 => ?_) (fun c4 => ?_)
    · exact absurd (Option.some.inj c4) (hn_ne gw ga3 (by decide))
    · skip
      refine w_aln rfl ?_
      refine w_ic ?_
      refine w_cv (st := []) rfl gtp rfl (Nat.le_of_ble_eq_true rfl) (fun kk h => h) (r_X7_refuse (d := d + 5) hA hS (by decide) (fun MF5 F5 => ?_))
      exact w_iret (fun _ => Or.inl rfl) (h10 _ F5)
set_option maxHeartbeats 8000000 in
theorem r_dr_14 {G : mj_G} {M0 M : mj_M} {B : Nat → Int} {n lim tp bc pl na ta ba wa oa : Nat} {tr br : Nat → Nat} {T : Nat → Nat × Nat × Int × List Int × Nat} {PL WA OA : Nat → Int} {TO BI : Nat → Nat → Int} {nm : Nat → List Int} {Q : mj_P} {d q : Nat} {dl fa sa ca : Nat} {R : Nat → Int} (hA : rv_AT G M0 B n lim tp bc pl na ta ba wa oa tr br T) (hS : rv_S G M0 n lim tp pl na wa oa tr br (T q) PL WA OA TO BI nm M) (hqn : q ≤ n) (hD : rv_D G M0 dl fa sa ca) (hR : rv_DR M0 fa sa ca R) (hdb : rv_db (PL 4) R) (hb : rv_pb PL) (h3 : M0.1 dl 3 = (rv_cn R 12 : Int)) {w : Nat} (gw : G w = (914050, 0)) (e9 : M.2.2 tp 9 = some w) (h10 : ∀ M', rv_F tp pl na wa oa tr br M0 1 (T q).2.1 M' → Q (some (.inl 0)) G M') : mj_R mj_tab (d + 7) 21 [.inr (.inr (some dl)), .inr (.inr (some tp)), .inr (.inr (some pl))] G M Q := by
  obtain ⟨⟨gtp, gbc, gpl, gna, gta, gba, gwa, goa, gtr, gbr, itr, ibr, r1, r2, r3, r4, r5, r6, r7, r8, rb, rw0, n1, n2, hIw⟩, hT⟩ := id hA
  obtain ⟨b1, b2, b3, b4⟩ := id hb
  obtain ⟨gdl, gfa, gsa, gca, -⟩ := id hD
  have k12 := rv_cn_le R 12
  refine ⟨Nat.le_of_ble_eq_true rfl, ?_⟩
  show wz (d + 6) mt_X1_readRow.2.2.2.2.1 Q mt_X1_readRow.2.2.2.2.1 [some (.inr (.inr (some dl))), some (.inr (.inr (some tp))), some (.inr (.inr (some pl))), none, none] [] G M _ _
  refine w_aln rfl ?_
  refine w_gr gtp rfl (by decide) rfl (e9) ?_
  refine w_asn ?_
  show wz _ _ _ _ [some (.inr (.inr (some dl))), some (.inr (.inr (some tp))), some (.inr (.inr (some pl))), some (.inr (.inr (some w))), none] _ _ _ _ _
  refine w_aln rfl ?_
  refine w_gs ?_
  intro a1 ga1
  have ga1 : G a1 = (910050, 0) := ga1
  refine w_aceq (fun c2 => ?_) (fun c2 => ?_)
  · exact absurd (Option.some.inj c2) (hn_ne gw ga1 (by decide))
  · skip
    refine w_aln rfl ?_
    refine w_gs ?_
    intro a3 ga3
    have ga3 : G a3 = (911050, 0) := ga3
    refine w_aceq (fun c4 => ?_) (fun c4 => ?_)
    · exact absurd (Option.some.inj c4) (hn_ne gw ga3 (by decide))
    · skip
      refine w_aln rfl ?_
      refine w_ic ?_
      refine w_cv (st := []) rfl gtp rfl (Nat.le_of_ble_eq_true rfl) (fun kk h => h) (r_X7_refuse (d := d + 5) hA hS (by decide) (fun MF5 F5 => ?_))
      exact w_iret (fun _ => Or.inl rfl) (h10 _ F5)
set_option maxHeartbeats 8000000 in
theorem r_dr_15 {G : mj_G} {M0 M : mj_M} {B : Nat → Int} {n lim tp bc pl na ta ba wa oa : Nat} {tr br : Nat → Nat} {T : Nat → Nat × Nat × Int × List Int × Nat} {PL WA OA : Nat → Int} {TO BI : Nat → Nat → Int} {nm : Nat → List Int} {Q : mj_P} {d q : Nat} {dl fa sa ca : Nat} {R : Nat → Int} (hA : rv_AT G M0 B n lim tp bc pl na ta ba wa oa tr br T) (hS : rv_S G M0 n lim tp pl na wa oa tr br (T q) PL WA OA TO BI nm M) (hqn : q ≤ n) (hD : rv_D G M0 dl fa sa ca) (hR : rv_DR M0 fa sa ca R) (hdb : rv_db (PL 4) R) (hb : rv_pb PL) (h3 : M0.1 dl 3 = (rv_cn R 12 : Int)) {w : Nat} (gw : G w = (915050, 0)) (e9 : M.2.2 tp 9 = some w) (h10 : ∀ M', rv_F tp pl na wa oa tr br M0 1 (T q).2.1 M' → Q (some (.inl 0)) G M') : mj_R mj_tab (d + 7) 21 [.inr (.inr (some dl)), .inr (.inr (some tp)), .inr (.inr (some pl))] G M Q := by
  obtain ⟨⟨gtp, gbc, gpl, gna, gta, gba, gwa, goa, gtr, gbr, itr, ibr, r1, r2, r3, r4, r5, r6, r7, r8, rb, rw0, n1, n2, hIw⟩, hT⟩ := id hA
  obtain ⟨b1, b2, b3, b4⟩ := id hb
  obtain ⟨gdl, gfa, gsa, gca, -⟩ := id hD
  have k12 := rv_cn_le R 12
  refine ⟨Nat.le_of_ble_eq_true rfl, ?_⟩
  show wz (d + 6) mt_X1_readRow.2.2.2.2.1 Q mt_X1_readRow.2.2.2.2.1 [some (.inr (.inr (some dl))), some (.inr (.inr (some tp))), some (.inr (.inr (some pl))), none, none] [] G M _ _
  refine w_aln rfl ?_
  refine w_gr gtp rfl (by decide) rfl (e9) ?_
  refine w_asn ?_
  show wz _ _ _ _ [some (.inr (.inr (some dl))), some (.inr (.inr (some tp))), some (.inr (.inr (some pl))), some (.inr (.inr (some w))), none] _ _ _ _ _
  refine w_aln rfl ?_
  refine w_gs ?_
  intro a1 ga1
  have ga1 : G a1 = (910050, 0) := ga1
  refine w_aceq (fun c2 => ?_) (fun c2 => ?_)
  · exact absurd (Option.some.inj c2) (hn_ne gw ga1 (by decide))
  · skip
    refine w_aln rfl ?_
    refine w_gs ?_
    intro a3 ga3
    have ga3 : G a3 = (911050, 0) := ga3
    refine w_aceq (fun c4 => ?_) (fun c4 => ?_)
    · exact absurd (Option.some.inj c4) (hn_ne gw ga3 (by decide))
    · skip
      refine w_aln rfl ?_
      refine w_ic ?_
      refine w_cv (st := []) rfl gtp rfl (Nat.le_of_ble_eq_true rfl) (fun kk h => h) (r_X7_refuse (d := d + 5) hA hS (by decide) (fun MF5 F5 => ?_))
      exact w_iret (fun _ => Or.inl rfl) (h10 _ F5)
set_option maxHeartbeats 8000000 in
theorem r_dr_16 {G : mj_G} {M0 M : mj_M} {B : Nat → Int} {n lim tp bc pl na ta ba wa oa : Nat} {tr br : Nat → Nat} {T : Nat → Nat × Nat × Int × List Int × Nat} {PL WA OA : Nat → Int} {TO BI : Nat → Nat → Int} {nm : Nat → List Int} {Q : mj_P} {d q : Nat} {dl fa sa ca : Nat} {R : Nat → Int} (hA : rv_AT G M0 B n lim tp bc pl na ta ba wa oa tr br T) (hS : rv_S G M0 n lim tp pl na wa oa tr br (T q) PL WA OA TO BI nm M) (hqn : q ≤ n) (hD : rv_D G M0 dl fa sa ca) (hR : rv_DR M0 fa sa ca R) (hdb : rv_db (PL 4) R) (hb : rv_pb PL) (h3 : M0.1 dl 3 = (rv_cn R 12 : Int)) {w : Nat} (gw : G w = (916050, 0)) (e9 : M.2.2 tp 9 = some w) (h10 : ∀ M', rv_F tp pl na wa oa tr br M0 1 (T q).2.1 M' → Q (some (.inl 0)) G M') : mj_R mj_tab (d + 7) 21 [.inr (.inr (some dl)), .inr (.inr (some tp)), .inr (.inr (some pl))] G M Q := by
  obtain ⟨⟨gtp, gbc, gpl, gna, gta, gba, gwa, goa, gtr, gbr, itr, ibr, r1, r2, r3, r4, r5, r6, r7, r8, rb, rw0, n1, n2, hIw⟩, hT⟩ := id hA
  obtain ⟨b1, b2, b3, b4⟩ := id hb
  obtain ⟨gdl, gfa, gsa, gca, -⟩ := id hD
  have k12 := rv_cn_le R 12
  refine ⟨Nat.le_of_ble_eq_true rfl, ?_⟩
  show wz (d + 6) mt_X1_readRow.2.2.2.2.1 Q mt_X1_readRow.2.2.2.2.1 [some (.inr (.inr (some dl))), some (.inr (.inr (some tp))), some (.inr (.inr (some pl))), none, none] [] G M _ _
  refine w_aln rfl ?_
  refine w_gr gtp rfl (by decide) rfl (e9) ?_
  refine w_asn ?_
  show wz _ _ _ _ [some (.inr (.inr (some dl))), some (.inr (.inr (some tp))), some (.inr (.inr (some pl))), some (.inr (.inr (some w))), none] _ _ _ _ _
  refine w_aln rfl ?_
  refine w_gs ?_
  intro a1 ga1
  have ga1 : G a1 = (910050, 0) := ga1
  refine w_aceq (fun c2 => ?_) (fun c2 => ?_)
  · exact absurd (Option.some.inj c2) (hn_ne gw ga1 (by decide))
  · skip
    refine w_aln rfl ?_
    refine w_gs ?_
    intro a3 ga3
    have ga3 : G a3 = (911050, 0) := ga3
    refine w_aceq (fun c4 => ?_) (fun c4 => ?_)
    · exact absurd (Option.some.inj c4) (hn_ne gw ga3 (by decide))
    · skip
      refine w_aln rfl ?_
      refine w_ic ?_
      refine w_cv (st := []) rfl gtp rfl (Nat.le_of_ble_eq_true rfl) (fun kk h => h) (r_X7_refuse (d := d + 5) hA hS (by decide) (fun MF5 F5 => ?_))
      exact w_iret (fun _ => Or.inl rfl) (h10 _ F5)
set_option maxHeartbeats 8000000 in
theorem r_dr_17 {G : mj_G} {M0 M : mj_M} {B : Nat → Int} {n lim tp bc pl na ta ba wa oa : Nat} {tr br : Nat → Nat} {T : Nat → Nat × Nat × Int × List Int × Nat} {PL WA OA : Nat → Int} {TO BI : Nat → Nat → Int} {nm : Nat → List Int} {Q : mj_P} {d q : Nat} {dl fa sa ca : Nat} {R : Nat → Int} (hA : rv_AT G M0 B n lim tp bc pl na ta ba wa oa tr br T) (hS : rv_S G M0 n lim tp pl na wa oa tr br (T q) PL WA OA TO BI nm M) (hqn : q ≤ n) (hD : rv_D G M0 dl fa sa ca) (hR : rv_DR M0 fa sa ca R) (hdb : rv_db (PL 4) R) (hb : rv_pb PL) (h3 : M0.1 dl 3 = (rv_cn R 12 : Int)) {w : Nat} (gw : G w = (917050, 0)) (e9 : M.2.2 tp 9 = some w) (h10 : ∀ M', rv_F tp pl na wa oa tr br M0 1 (T q).2.1 M' → Q (some (.inl 0)) G M') : mj_R mj_tab (d + 7) 21 [.inr (.inr (some dl)), .inr (.inr (some tp)), .inr (.inr (some pl))] G M Q := by
  obtain ⟨⟨gtp, gbc, gpl, gna, gta, gba, gwa, goa, gtr, gbr, itr, ibr, r1, r2, r3, r4, r5, r6, r7, r8, rb, rw0, n1, n2, hIw⟩, hT⟩ := id hA
  obtain ⟨b1, b2, b3, b4⟩ := id hb
  obtain ⟨gdl, gfa, gsa, gca, -⟩ := id hD
  have k12 := rv_cn_le R 12
  refine ⟨Nat.le_of_ble_eq_true rfl, ?_⟩
  show wz (d + 6) mt_X1_readRow.2.2.2.2.1 Q mt_X1_readRow.2.2.2.2.1 [some (.inr (.inr (some dl))), some (.inr (.inr (some tp))), some (.inr (.inr (some pl))), none, none] [] G M _ _
  refine w_aln rfl ?_
  refine w_gr gtp rfl (by decide) rfl (e9) ?_
  refine w_asn ?_
  show wz _ _ _ _ [some (.inr (.inr (some dl))), some (.inr (.inr (some tp))), some (.inr (.inr (some pl))), some (.inr (.inr (some w))), none] _ _ _ _ _
  refine w_aln rfl ?_
  refine w_gs ?_
  intro a1 ga1
  have ga1 : G a1 = (910050, 0) := ga1
  refine w_aceq (fun c2 => ?_) (fun c2 => ?_)
  · exact absurd (Option.some.inj c2) (hn_ne gw ga1 (by decide))
  · skip
    refine w_aln rfl ?_
    refine w_gs ?_
    intro a3 ga3
    have ga3 : G a3 = (911050, 0) := ga3
    refine w_aceq (fun c4 => ?_) (fun c4 => ?_)
    · exact absurd (Option.some.inj c4) (hn_ne gw ga3 (by decide))
    · skip
      refine w_aln rfl ?_
      refine w_ic ?_
      refine w_cv (st := []) rfl gtp rfl (Nat.le_of_ble_eq_true rfl) (fun kk h => h) (r_X7_refuse (d := d + 5) hA hS (by decide) (fun MF5 F5 => ?_))
      exact w_iret (fun _ => Or.inl rfl) (h10 _ F5)
set_option maxHeartbeats 8000000 in
theorem r_dr_18 {G : mj_G} {M0 M : mj_M} {B : Nat → Int} {n lim tp bc pl na ta ba wa oa : Nat} {tr br : Nat → Nat} {T : Nat → Nat × Nat × Int × List Int × Nat} {PL WA OA : Nat → Int} {TO BI : Nat → Nat → Int} {nm : Nat → List Int} {Q : mj_P} {d q : Nat} {dl fa sa ca : Nat} {R : Nat → Int} (hA : rv_AT G M0 B n lim tp bc pl na ta ba wa oa tr br T) (hS : rv_S G M0 n lim tp pl na wa oa tr br (T q) PL WA OA TO BI nm M) (hqn : q ≤ n) (hD : rv_D G M0 dl fa sa ca) (hR : rv_DR M0 fa sa ca R) (hdb : rv_db (PL 4) R) (hb : rv_pb PL) (h3 : M0.1 dl 3 = (rv_cn R 12 : Int)) {w : Nat} (gw : G w = (918050, 0)) (e9 : M.2.2 tp 9 = some w) (h10 : ∀ M', rv_F tp pl na wa oa tr br M0 1 (T q).2.1 M' → Q (some (.inl 0)) G M') : mj_R mj_tab (d + 7) 21 [.inr (.inr (some dl)), .inr (.inr (some tp)), .inr (.inr (some pl))] G M Q := by
  obtain ⟨⟨gtp, gbc, gpl, gna, gta, gba, gwa, goa, gtr, gbr, itr, ibr, r1, r2, r3, r4, r5, r6, r7, r8, rb, rw0, n1, n2, hIw⟩, hT⟩ := id hA
  obtain ⟨b1, b2, b3, b4⟩ := id hb
  obtain ⟨gdl, gfa, gsa, gca, -⟩ := id hD
  have k12 := rv_cn_le R 12
  refine ⟨Nat.le_of_ble_eq_true rfl, ?_⟩
  show wz (d + 6) mt_X1_readRow.2.2.2.2.1 Q mt_X1_readRow.2.2.2.2.1 [some (.inr (.inr (some dl))), some (.inr (.inr (some tp))), some (.inr (.inr (some pl))), none, none] [] G M _ _
  refine w_aln rfl ?_
  refine w_gr gtp rfl (by decide) rfl (e9) ?_
  refine w_asn ?_
  show wz _ _ _ _ [some (.inr (.inr (some dl))), some (.inr (.inr (some tp))), some (.inr (.inr (some pl))), some (.inr (.inr (some w))), none] _ _ _ _ _
  refine w_aln rfl ?_
  refine w_gs ?_
  intro a1 ga1
  have ga1 : G a1 = (910050, 0) := ga1
  refine w_aceq (fun c2 => ?_) (fun c2 => ?_)
  · exact absurd (Option.some.inj c2) (hn_ne gw ga1 (by decide))
  · skip
    refine w_aln rfl ?_
    refine w_gs ?_
    intro a3 ga3
    have ga3 : G a3 = (911050, 0) := ga3
    refine w_aceq (fun c4 => ?_) (fun c4 => ?_)
    · exact absurd (Option.some.inj c4) (hn_ne gw ga3 (by decide))
    · skip
      refine w_aln rfl ?_
      refine w_ic ?_
      refine w_cv (st := []) rfl gtp rfl (Nat.le_of_ble_eq_true rfl) (fun kk h => h) (r_X7_refuse (d := d + 5) hA hS (by decide) (fun MF5 F5 => ?_))
      exact w_iret (fun _ => Or.inl rfl) (h10 _ F5)
set_option maxHeartbeats 8000000 in
theorem r_dr_19 {G : mj_G} {M0 M : mj_M} {B : Nat → Int} {n lim tp bc pl na ta ba wa oa : Nat} {tr br : Nat → Nat} {T : Nat → Nat × Nat × Int × List Int × Nat} {PL WA OA : Nat → Int} {TO BI : Nat → Nat → Int} {nm : Nat → List Int} {Q : mj_P} {d q : Nat} {dl fa sa ca : Nat} {R : Nat → Int} (hA : rv_AT G M0 B n lim tp bc pl na ta ba wa oa tr br T) (hS : rv_S G M0 n lim tp pl na wa oa tr br (T q) PL WA OA TO BI nm M) (hqn : q ≤ n) (hD : rv_D G M0 dl fa sa ca) (hR : rv_DR M0 fa sa ca R) (hdb : rv_db (PL 4) R) (hb : rv_pb PL) (h3 : M0.1 dl 3 = (rv_cn R 12 : Int)) {w : Nat} (gw : G w = (919050, 0)) (e9 : M.2.2 tp 9 = some w) (h10 : ∀ M', rv_F tp pl na wa oa tr br M0 1 (T q).2.1 M' → Q (some (.inl 0)) G M') : mj_R mj_tab (d + 7) 21 [.inr (.inr (some dl)), .inr (.inr (some tp)), .inr (.inr (some pl))] G M Q := by
  obtain ⟨⟨gtp, gbc, gpl, gna, gta, gba, gwa, goa, gtr, gbr, itr, ibr, r1, r2, r3, r4, r5, r6, r7, r8, rb, rw0, n1, n2, hIw⟩, hT⟩ := id hA
  obtain ⟨b1, b2, b3, b4⟩ := id hb
  obtain ⟨gdl, gfa, gsa, gca, -⟩ := id hD
  have k12 := rv_cn_le R 12
  refine ⟨Nat.le_of_ble_eq_true rfl, ?_⟩
  show wz (d + 6) mt_X1_readRow.2.2.2.2.1 Q mt_X1_readRow.2.2.2.2.1 [some (.inr (.inr (some dl))), some (.inr (.inr (some tp))), some (.inr (.inr (some pl))), none, none] [] G M _ _
  refine w_aln rfl ?_
  refine w_gr gtp rfl (by decide) rfl (e9) ?_
  refine w_asn ?_
  show wz _ _ _ _ [some (.inr (.inr (some dl))), some (.inr (.inr (some tp))), some (.inr (.inr (some pl))), some (.inr (.inr (some w))), none] _ _ _ _ _
  refine w_aln rfl ?_
  refine w_gs ?_
  intro a1 ga1
  have ga1 : G a1 = (910050, 0) := ga1
  refine w_aceq (fun c2 => ?_) (fun c2 => ?_)
  · exact absurd (Option.some.inj c2) (hn_ne gw ga1 (by decide))
  · skip
    refine w_aln rfl ?_
    refine w_gs ?_
    intro a3 ga3
    have ga3 : G a3 = (911050, 0) := ga3
    refine w_aceq (fun c4 => ?_) (fun c4 => ?_)
    · exact absurd (Option.some.inj c4) (hn_ne gw ga3 (by decide))
    · skip
      refine w_aln rfl ?_
      refine w_ic ?_
      refine w_cv (st := []) rfl gtp rfl (Nat.le_of_ble_eq_true rfl) (fun kk h => h) (r_X7_refuse (d := d + 5) hA hS (by decide) (fun MF5 F5 => ?_))
      exact w_iret (fun _ => Or.inl rfl) (h10 _ F5)
set_option maxHeartbeats 8000000 in
theorem r_dr_20 {G : mj_G} {M0 M : mj_M} {B : Nat → Int} {n lim tp bc pl na ta ba wa oa : Nat} {tr br : Nat → Nat} {T : Nat → Nat × Nat × Int × List Int × Nat} {PL WA OA : Nat → Int} {TO BI : Nat → Nat → Int} {nm : Nat → List Int} {Q : mj_P} {d q : Nat} {dl fa sa ca : Nat} {R : Nat → Int} (hA : rv_AT G M0 B n lim tp bc pl na ta ba wa oa tr br T) (hS : rv_S G M0 n lim tp pl na wa oa tr br (T q) PL WA OA TO BI nm M) (hqn : q ≤ n) (hD : rv_D G M0 dl fa sa ca) (hR : rv_DR M0 fa sa ca R) (hdb : rv_db (PL 4) R) (hb : rv_pb PL) (h3 : M0.1 dl 3 = (rv_cn R 12 : Int)) {w : Nat} (gw : G w = (920050, 0)) (e9 : M.2.2 tp 9 = some w) (h10 : ∀ M', rv_F tp pl na wa oa tr br M0 1 (T q).2.1 M' → Q (some (.inl 0)) G M') : mj_R mj_tab (d + 7) 21 [.inr (.inr (some dl)), .inr (.inr (some tp)), .inr (.inr (some pl))] G M Q := by
  obtain ⟨⟨gtp, gbc, gpl, gna, gta, gba, gwa, goa, gtr, gbr, itr, ibr, r1, r2, r3, r4, r5, r6, r7, r8, rb, rw0, n1, n2, hIw⟩, hT⟩ := id hA
  obtain ⟨b1, b2, b3, b4⟩ := id hb
  obtain ⟨gdl, gfa, gsa, gca, -⟩ := id hD
  have k12 := rv_cn_le R 12
  refine ⟨Nat.le_of_ble_eq_true rfl, ?_⟩
  show wz (d + 6) mt_X1_readRow.2.2.2.2.1 Q mt_X1_readRow.2.2.2.2.1 [some (.inr (.inr (some dl))), some (.inr (.inr (some tp))), some (.inr (.inr (some pl))), none, none] [] G M _ _
  refine w_aln rfl ?_
  refine w_gr gtp rfl (by decide) rfl (e9) ?_
  refine w_asn ?_
  show wz _ _ _ _ [some (.inr (.inr (some dl))), some (.inr (.inr (some tp))), some (.inr (.inr (some pl))), some (.inr (.inr (some w))), none] _ _ _ _ _
  refine w_aln rfl ?_
  refine w_gs ?_
  intro a1 ga1
  have ga1 : G a1 = (910050, 0) := ga1
  refine w_aceq (fun c2 => ?_) (fun c2 => ?_)
  · exact absurd (Option.some.inj c2) (hn_ne gw ga1 (by decide))
  · skip
    refine w_aln rfl ?_
    refine w_gs ?_
    intro a3 ga3
    have ga3 : G a3 = (911050, 0) := ga3
    refine w_aceq (fun c4 => ?_) (fun c4 => ?_)
    · exact absurd (Option.some.inj c4) (hn_ne gw ga3 (by decide))
    · skip
      refine w_aln rfl ?_
      refine w_ic ?_
      refine w_cv (st := []) rfl gtp rfl (Nat.le_of_ble_eq_true rfl) (fun kk h => h) (r_X7_refuse (d := d + 5) hA hS (by decide) (fun MF5 F5 => ?_))
      exact w_iret (fun _ => Or.inl rfl) (h10 _ F5)
set_option maxHeartbeats 8000000 in
theorem r_dr_21 {G : mj_G} {M0 M : mj_M} {B : Nat → Int} {n lim tp bc pl na ta ba wa oa : Nat} {tr br : Nat → Nat} {T : Nat → Nat × Nat × Int × List Int × Nat} {PL WA OA : Nat → Int} {TO BI : Nat → Nat → Int} {nm : Nat → List Int} {Q : mj_P} {d q : Nat} {dl fa sa ca : Nat} {R : Nat → Int} (hA : rv_AT G M0 B n lim tp bc pl na ta ba wa oa tr br T) (hS : rv_S G M0 n lim tp pl na wa oa tr br (T q) PL WA OA TO BI nm M) (hqn : q ≤ n) (hD : rv_D G M0 dl fa sa ca) (hR : rv_DR M0 fa sa ca R) (hdb : rv_db (PL 4) R) (hb : rv_pb PL) (h3 : M0.1 dl 3 = (rv_cn R 12 : Int)) {w : Nat} (gw : G w = (921050, 0)) (e9 : M.2.2 tp 9 = some w) (h10 : ∀ M', rv_F tp pl na wa oa tr br M0 1 (T q).2.1 M' → Q (some (.inl 0)) G M') : mj_R mj_tab (d + 7) 21 [.inr (.inr (some dl)), .inr (.inr (some tp)), .inr (.inr (some pl))] G M Q := by
  obtain ⟨⟨gtp, gbc, gpl, gna, gta, gba, gwa, goa, gtr, gbr, itr, ibr, r1, r2, r3, r4, r5, r6, r7, r8, rb, rw0, n1, n2, hIw⟩, hT⟩ := id hA
  obtain ⟨b1, b2, b3, b4⟩ := id hb
  obtain ⟨gdl, gfa, gsa, gca, -⟩ := id hD
  have k12 := rv_cn_le R 12
  refine ⟨Nat.le_of_ble_eq_true rfl, ?_⟩
  show wz (d + 6) mt_X1_readRow.2.2.2.2.1 Q mt_X1_readRow.2.2.2.2.1 [some (.inr (.inr (some dl))), some (.inr (.inr (some tp))), some (.inr (.inr (some pl))), none, none] [] G M _ _
  refine w_aln rfl ?_
  refine w_gr gtp rfl (by decide) rfl (e9) ?_
  refine w_asn ?_
  show wz _ _ _ _ [some (.inr (.inr (some dl))), some (.inr (.inr (some tp))), some (.inr (.inr (some pl))), some (.inr (.inr (some w))), none] _ _ _ _ _
  refine w_aln rfl ?_
  refine w_gs ?_
  intro a1 ga1
  have ga1 : G a1 = (910050, 0) := ga1
  refine w_aceq (fun c2 => ?_) (fun c2 => ?_)
  · exact absurd (Option.some.inj c2) (hn_ne gw ga1 (by decide))
  · skip
    refine w_aln rfl ?_
    refine w_gs ?_
    intro a3 ga3
    have ga3 : G a3 = (911050, 0) := ga3
    refine w_aceq (fun c4 => ?_) (fun c4 => ?_)
    · exact absurd (Option.some.inj c4) (hn_ne gw ga3 (by decide))
    · skip
      refine w_aln rfl ?_
      refine w_ic ?_
      refine w_cv (st := []) rfl gtp rfl (Nat.le_of_ble_eq_true rfl) (fun kk h => h) (r_X7_refuse (d := d + 5) hA hS (by decide) (fun MF5 F5 => ?_))
      exact w_iret (fun _ => Or.inl rfl) (h10 _ F5)
set_option maxHeartbeats 8000000 in
theorem r_dr_22 {G : mj_G} {M0 M : mj_M} {B : Nat → Int} {n lim tp bc pl na ta ba wa oa : Nat} {tr br : Nat → Nat} {T : Nat → Nat × Nat × Int × List Int × Nat} {PL WA OA : Nat → Int} {TO BI : Nat → Nat → Int} {nm : Nat → List Int} {Q : mj_P} {d q : Nat} {dl fa sa ca : Nat} {R : Nat → Int} (hA : rv_AT G M0 B n lim tp bc pl na ta ba wa oa tr br T) (hS : rv_S G M0 n lim tp pl na wa oa tr br (T q) PL WA OA TO BI nm M) (hqn : q ≤ n) (hD : rv_D G M0 dl fa sa ca) (hR : rv_DR M0 fa sa ca R) (hdb : rv_db (PL 4) R) (hb : rv_pb PL) (h3 : M0.1 dl 3 = (rv_cn R 12 : Int)) {w : Nat} (gw : G w = (922050, 0)) (e9 : M.2.2 tp 9 = some w) (h10 : ∀ M', rv_F tp pl na wa oa tr br M0 1 (T q).2.1 M' → Q (some (.inl 0)) G M') : mj_R mj_tab (d + 7) 21 [.inr (.inr (some dl)), .inr (.inr (some tp)), .inr (.inr (some pl))] G M Q := by
  obtain ⟨⟨gtp, gbc, gpl, gna, gta, gba, gwa, goa, gtr, gbr, itr, ibr, r1, r2, r3, r4, r5, r6, r7, r8, rb, rw0, n1, n2, hIw⟩, hT⟩ := id hA
  obtain ⟨b1, b2, b3, b4⟩ := id hb
  obtain ⟨gdl, gfa, gsa, gca, -⟩ := id hD
  have k12 := rv_cn_le R 12
  refine ⟨Nat.le_of_ble_eq_true rfl, ?_⟩
  show wz (d + 6) mt_X1_readRow.2.2.2.2.1 Q mt_X1_readRow.2.2.2.2.1 [some (.inr (.inr (some dl))), some (.inr (.inr (some tp))), some (.inr (.inr (some pl))), none, none] [] G M _ _
  refine w_aln rfl ?_
  refine w_gr gtp rfl (by decide) rfl (e9) ?_
  refine w_asn ?_
  show wz _ _ _ _ [some (.inr (.inr (some dl))), some (.inr (.inr (some tp))), some (.inr (.inr (some pl))), some (.inr (.inr (some w))), none] _ _ _ _ _
  refine w_aln rfl ?_
  refine w_gs ?_
  intro a1 ga1
  have ga1 : G a1 = (910050, 0) := ga1
  refine w_aceq (fun c2 => ?_) (fun c2 => ?_)
  · exact absurd (Option.some.inj c2) (hn_ne gw ga1 (by decide))
  · skip
    refine w_aln rfl ?_
    refine w_gs ?_
    intro a3 ga3
    have ga3 : G a3 = (911050, 0) := ga3
    refine w_aceq (fun c4 => ?_) (fun c4 => ?_)
    · exact absurd (Option.some.inj c4) (hn_ne gw ga3 (by decide))
    · skip
      refine w_aln rfl ?_
      refine w_ic ?_
      refine w_cv (st := []) rfl gtp rfl (Nat.le_of_ble_eq_true rfl) (fun kk h => h) (r_X7_refuse (d := d + 5) hA hS (by decide) (fun MF5 F5 => ?_))
      exact w_iret (fun _ => Or.inl rfl) (h10 _ F5)
set_option maxHeartbeats 8000000 in
theorem r_dr_23 {G : mj_G} {M0 M : mj_M} {B : Nat → Int} {n lim tp bc pl na ta ba wa oa : Nat} {tr br : Nat → Nat} {T : Nat → Nat × Nat × Int × List Int × Nat} {PL WA OA : Nat → Int} {TO BI : Nat → Nat → Int} {nm : Nat → List Int} {Q : mj_P} {d q : Nat} {dl fa sa ca : Nat} {R : Nat → Int} (hA : rv_AT G M0 B n lim tp bc pl na ta ba wa oa tr br T) (hS : rv_S G M0 n lim tp pl na wa oa tr br (T q) PL WA OA TO BI nm M) (hqn : q ≤ n) (hD : rv_D G M0 dl fa sa ca) (hR : rv_DR M0 fa sa ca R) (hdb : rv_db (PL 4) R) (hb : rv_pb PL) (h3 : M0.1 dl 3 = (rv_cn R 12 : Int)) {w : Nat} (gw : G w = (923050, 0)) (e9 : M.2.2 tp 9 = some w) (h10 : ∀ M', rv_F tp pl na wa oa tr br M0 1 (T q).2.1 M' → Q (some (.inl 0)) G M') : mj_R mj_tab (d + 7) 21 [.inr (.inr (some dl)), .inr (.inr (some tp)), .inr (.inr (some pl))] G M Q := by
  obtain ⟨⟨gtp, gbc, gpl, gna, gta, gba, gwa, goa, gtr, gbr, itr, ibr, r1, r2, r3, r4, r5, r6, r7, r8, rb, rw0, n1, n2, hIw⟩, hT⟩ := id hA
  obtain ⟨b1, b2, b3, b4⟩ := id hb
  obtain ⟨gdl, gfa, gsa, gca, -⟩ := id hD
  have k12 := rv_cn_le R 12
  refine ⟨Nat.le_of_ble_eq_true rfl, ?_⟩
  show wz (d + 6) mt_X1_readRow.2.2.2.2.1 Q mt_X1_readRow.2.2.2.2.1 [some (.inr (.inr (some dl))), some (.inr (.inr (some tp))), some (.inr (.inr (some pl))), none, none] [] G M _ _
  refine w_aln rfl ?_
  refine w_gr gtp rfl (by decide) rfl (e9) ?_
  refine w_asn ?_
  show wz _ _ _ _ [some (.inr (.inr (some dl))), some (.inr (.inr (some tp))), some (.inr (.inr (some pl))), some (.inr (.inr (some w))), none] _ _ _ _ _
  refine w_aln rfl ?_
  refine w_gs ?_
  intro a1 ga1
  have ga1 : G a1 = (910050, 0) := ga1
  refine w_aceq (fun c2 => ?_) (fun c2 => ?_)
  · exact absurd (Option.some.inj c2) (hn_ne gw ga1 (by decide))
  · skip
    refine w_aln rfl ?_
    refine w_gs ?_
    intro a3 ga3
    have ga3 : G a3 = (911050, 0) := ga3
    refine w_aceq (fun c4 => ?_) (fun c4 => ?_)
    · exact absurd (Option.some.inj c4) (hn_ne gw ga3 (by decide))
    · skip
      refine w_aln rfl ?_
      refine w_ic ?_
      refine w_cv (st := []) rfl gtp rfl (Nat.le_of_ble_eq_true rfl) (fun kk h => h) (r_X7_refuse (d := d + 5) hA hS (by decide) (fun MF5 F5 => ?_))
      exact w_iret (fun _ => Or.inl rfl) (h10 _ F5)
theorem r_X1_readRow {G : mj_G} {M0 M : mj_M} {B : Nat → Int} {n lim tp bc pl na ta ba wa oa : Nat} {tr br : Nat → Nat} {T : Nat → Nat × Nat × Int × List Int × Nat} {PL WA OA : Nat → Int} {TO BI : Nat → Nat → Int} {nm : Nat → List Int} {Q : mj_P} {d q : Nat} {dl fa sa ca : Nat} {R : Nat → Int} (hA : rv_AT G M0 B n lim tp bc pl na ta ba wa oa tr br T) (hS : rv_S G M0 n lim tp pl na wa oa tr br (T q) PL WA OA TO BI nm M) (hqn : q ≤ n) (hD : rv_D G M0 dl fa sa ca) (hR : rv_DR M0 fa sa ca R) (hdb : rv_db (PL 4) R) (hb : rv_pb PL) (h3 : M0.1 dl 3 = (rv_cn R 12 : Int)) (h : sp_deal T nm (PL 4) R q (fun f a => ∀ M', rv_F tp pl na wa oa tr br M0 f a M' → Q (some (.inl 0)) G M') (fun R' q' => q ≤ q' → q' ≤ n → rv_db (PL 4) R' → rv_cn R' 12 = rv_cn R 12 + 1 → ∀ M0' M', rv_AT G M0' B n lim tp bc pl na ta ba wa oa tr br T → rv_dfo dl fa sa ca M0 M0' → rv_S G M0' n lim tp pl na wa oa tr br (T q') PL WA OA TO BI nm M' → rv_DR M0' fa sa ca R' → M0'.1 dl 3 = M0.1 dl 3 + 1 → Q (some (.inl 1)) G M')) : mj_R mj_tab (d + 7) 21 [.inr (.inr (some dl)), .inr (.inr (some tp)), .inr (.inr (some pl))] G M Q := by
  obtain ⟨k4, k5, k11, k6, k7, k8, k9⟩ := id hS.2.1
  by_cases c : (T q).1 = 1
  · rcases (k8 c).2 with ⟨j, w, j1, j2, gw, e9⟩ | ⟨j1, e9⟩
    · obtain ⟨h0, h1, h2⟩ := h.1 j j1 c (rv_5i (rv_rs_o j j1) (rv_x_wo hA hqn c) ((rv_rs_5 j j1).trans j2))
      have hj : j = 0 ∨ j = 1 ∨ j = 2 ∨ j = 3 ∨ j = 4 ∨ j = 5 ∨ j = 6 ∨ j = 7 ∨ j = 8 ∨ j = 9 ∨ j = 10 ∨ j = 11 ∨ j = 12 ∨ j = 13 ∨ j = 14 ∨ j = 15 ∨ j = 16 ∨ j = 17 ∨ j = 18 ∨ j = 19 ∨ j = 20 ∨ j = 21 ∨ j = 22 ∨ j = 23 := by omega
      rcases hj with rfl | rfl | rfl | rfl | rfl | rfl | rfl | rfl | rfl | rfl | rfl | rfl | rfl | rfl | rfl | rfl | rfl | rfl | rfl | rfl | rfl | rfl | rfl | rfl
      · exact r_dr_0 hA hS hqn hD hR hdb hb h3 gw e9 (h2 (by decide) (by decide))
      · exact r_dr_1 hA hS hqn hD hR hdb hb h3 gw e9 (h2 (by decide) (by decide))
      · exact r_dr_2 hA hS hqn hD hR hdb hb h3 gw e9 (h2 (by decide) (by decide))
      · exact r_dr_3 hA hS hqn hD hR hdb hb h3 gw e9 (h2 (by decide) (by decide))
      · exact r_dr_4 hA hS hqn hD hR hdb hb h3 gw e9 (h2 (by decide) (by decide))
      · exact r_dr_5 hA hS hqn hD hR hdb hb h3 gw e9 (h2 (by decide) (by decide))
      · exact r_dr_6 hA hS hqn hD hR hdb hb h3 gw e9 (h2 (by decide) (by decide))
      · exact r_dr_7 hA hS hqn hD hR hdb hb h3 gw e9 (h2 (by decide) (by decide))
      · exact r_dr_8 hA hS hqn hD hR hdb hb h3 gw e9 (h2 (by decide) (by decide))
      · exact r_dr_9 hA hS hqn hD hR hdb hb h3 gw e9 (h2 (by decide) (by decide))
      · exact r_dr_10 hA hS hqn hD hR hdb hb h3 gw e9 (h0 rfl)
      · exact r_dr_11 hA hS hqn hD hR hdb hb h3 gw e9 (h1 rfl)
      · exact r_dr_12 hA hS hqn hD hR hdb hb h3 gw e9 (h2 (by decide) (by decide))
      · exact r_dr_13 hA hS hqn hD hR hdb hb h3 gw e9 (h2 (by decide) (by decide))
      · exact r_dr_14 hA hS hqn hD hR hdb hb h3 gw e9 (h2 (by decide) (by decide))
      · exact r_dr_15 hA hS hqn hD hR hdb hb h3 gw e9 (h2 (by decide) (by decide))
      · exact r_dr_16 hA hS hqn hD hR hdb hb h3 gw e9 (h2 (by decide) (by decide))
      · exact r_dr_17 hA hS hqn hD hR hdb hb h3 gw e9 (h2 (by decide) (by decide))
      · exact r_dr_18 hA hS hqn hD hR hdb hb h3 gw e9 (h2 (by decide) (by decide))
      · exact r_dr_19 hA hS hqn hD hR hdb hb h3 gw e9 (h2 (by decide) (by decide))
      · exact r_dr_20 hA hS hqn hD hR hdb hb h3 gw e9 (h2 (by decide) (by decide))
      · exact r_dr_21 hA hS hqn hD hR hdb hb h3 gw e9 (h2 (by decide) (by decide))
      · exact r_dr_22 hA hS hqn hD hR hdb hb h3 gw e9 (h2 (by decide) (by decide))
      · exact r_dr_23 hA hS hqn hD hR hdb hb h3 gw e9 (h2 (by decide) (by decide))
    · exact r_dr_n hA hS hqn hD hR hdb hb h3 e9 (h.2 (fun g => g.2 ((rv_nam5 (rv_x_wo hA hqn c)).mpr j1)))
  · exact r_dr_n hA hS hqn hD hR hdb hb h3 (k9 c) (h.2 (fun g => c g.1))
theorem r_deals1 {G : mj_G} {Mb : mj_M} {B : Nat → Int} {n lim tp bc pl na ta ba wa oa dl fa sa ca : Nat} {tr br : Nat → Nat} {T : Nat → Nat × Nat × Int × List Int × Nat} {PL WA OA : Nat → Int} {TO BI : Nat → Nat → Int} {nm : Nat → List Int} {Q : mj_P} {d : Nat} (hb : rv_pb PL) : ∀ (f q r : Nat) (R : Nat → Int) (M0 M : mj_M) (cb sb : Nat), n < q + f → q ≤ n → r ≤ q → rv_AT G M0 B n lim tp bc pl na ta ba wa oa tr br T → rv_D G M0 dl fa sa ca → rv_dfo dl fa sa ca Mb M0 → rv_S G M0 n lim tp pl na wa oa tr br (T q) PL WA OA TO BI nm M → rv_DR M0 fa sa ca R → rv_db (PL 4) R → rv_cn R 12 = r → M0.1 dl 3 = (r : Int) → sp_deals T nm (PL 4) (fun f a => ∀ M0' M', rv_dfo dl fa sa ca Mb M0' → rv_F tp pl na wa oa tr br M0' f a M' → Q none G M') (fun R r => rv_db (PL 4) R → ∀ M0' M' q', rv_AT G M0' B n lim tp bc pl na ta ba wa oa tr br T → rv_dfo dl fa sa ca Mb M0' → rv_S G M0' n lim tp pl na wa oa tr br (T q') PL WA OA TO BI nm M' → rv_DR M0' fa sa ca R → M0'.1 dl 3 = (r : Int) → Q none G M') f R r q → wz (d + 7) mt_X1_readRows.2.2.2.2.1 Q (mt_X1_readRows.2.2.2.2.1.drop 4) [some (.inr (.inr (some dl))), some (.inr (.inr (some tp))), some (.inr (.inr (some pl))), some (.inl (r : Int))] [] G M cb sb := by
  intro f
  induction f with
  | zero => intro q r R M0 M cb sb g1 g2 g3; exfalso; omega
  | succ f ih =>
    intro q r R M0 M cb sb g1 g2 g3 hA hD ho hS hR hdb hcn h3 h
    have gtp := hA.1.1
    have gdl := hD.1
    obtain ⟨k4, -⟩ := id hS.2.1
    obtain ⟨h0, h5, hr⟩ := h
    have hw := rv_x_w hA g2
    have k12 := rv_cn_le R 12
    refine w_iln rfl ?_
    refine w_bp ?_
    refine w_cmgt (fun c => by exfalso; omega) (fun c9 => ?_)
    refine w_aln rfl ?_
    refine w_gi gtp rfl (by decide) rfl rfl ?_
    refine w_ifeq (fun c => ?_) (fun c => ?_)
    · refine w_aln rfl ?_
      refine w_cv (st := []) rfl gtp rfl (Nat.le_of_ble_eq_true rfl) (fun kk h => h) (r_X7_finish (d := d + 5) hA hS (fun e => ?_) (fun e M' F => ?_) (by omega))
      · refine w_pop ?_
        exact w_ret (h0 e hdb M0 M q hA ho hS hR h3)
      · refine w_pop ?_
        exact w_ret (h5 e M0 M' ho F)
    · have e0 : (T q).1 ≠ 0 := by omega
      have e5 : (T q).1 ≠ 5 := by omega
      have hlt := hw.2.2.2.1 e0 e5
      have hle := hw.2.2.2.2.2
      refine w_aln rfl ?_
      refine w_aln rfl ?_
      refine w_aln rfl ?_
      refine w_cv (st := []) rfl gdl rfl (Nat.le_of_ble_eq_true rfl) (fun kk h => h) (r_X1_readRow (d := d) hA hS g2 hD hR hdb hb (by rw [hcn]; exact h3) ((hr e0 e5).mono (fun f a hf M1 F1 => ?_) (fun R1 q1 hk1 g4 g5 hdb1 hc1 N0 N a1 o1 s1 d1 t1 => ?_)))
      · refine w_ifeq (fun _ => ?_) (fun c => absurd rfl c)
        exact w_ret (hf M0 M1 ho F1)
      · refine w_ifeq (fun c => absurd c (by decide)) (fun _ => ?_)
        refine w_aln rfl ?_
        refine w_bp ?_
        refine w_cv (st := []) rfl gtp rfl (Nat.le_of_ble_eq_true rfl) (fun kk h => h) (r_X7_nextSign (d := d + 3) a1 s1 g5 (hk1.mono (fun f a hf M2 F2 => ?_) (fun e3 hk2 M2 s2 => ?_)))
        · refine w_ifne (fun c => absurd rfl c) (fun _ => ?_)
          exact w_ret (hf N0 M2 (ho.trans o1) F2)
        · refine w_ifne (fun _ => ?_) (fun c => absurd c (by decide))
          refine w_aln rfl ?_
          have g6 := rv_x_le a1 g5
          have g7 := rv_x_ge a1 g5
          have g8 := (rv_x_w a1 g6).2.2.2.1 (by omega) (by omega)
          have g9 := rv_x_le a1 g6
          refine w_cv (st := []) rfl gtp rfl (Nat.le_of_ble_eq_true rfl) (fun kk h => h) (r_adv2 (d := d + 4) a1 s2 g6 (fun M3 s3 => ?_))
          refine w_ii rfl ⟨by omega, by omega⟩ ?_
          refine w_goto ?_
          exact ih (rv_x T (rv_x T q1)) (r + 1) R1 N0 M3 _ _ (by unfold rv_x at *; omega) g9 (by unfold rv_x at *; omega) a1 (hD.mv o1.2) (ho.trans o1) s3 d1 hdb1 (by omega) (by rw [t1, h3]; rfl) hk2
theorem r_X1_readRows {G : mj_G} {B : Nat → Int} {n lim tp bc pl na ta ba wa oa dl fa sa ca : Nat} {tr br : Nat → Nat} {T : Nat → Nat × Nat × Int × List Int × Nat} {PL WA OA : Nat → Int} {TO BI : Nat → Nat → Int} {nm : Nat → List Int} {Q : mj_P} {d : Nat} {M0 M : mj_M} {R : Nat → Int} (hb : rv_pb PL) (hA : rv_AT G M0 B n lim tp bc pl na ta ba wa oa tr br T) (hD : rv_D G M0 dl fa sa ca) (hS : rv_S0 G M0 n lim tp pl na wa oa tr br 0 PL WA OA TO BI nm M) (hR : rv_DR M0 fa sa ca R) (hdb : rv_db (PL 4) R) (hcn : rv_cn R 12 = 0) (h3 : M0.1 dl 3 = 0) (h : sp_deals T nm (PL 4) (fun f a => ∀ M0' M', rv_dfo dl fa sa ca M0 M0' → rv_F tp pl na wa oa tr br M0' f a M' → Q none G M') (fun R r => rv_db (PL 4) R → ∀ M0' M' q', rv_AT G M0' B n lim tp bc pl na ta ba wa oa tr br T → rv_dfo dl fa sa ca M0 M0' → rv_S G M0' n lim tp pl na wa oa tr br (T q') PL WA OA TO BI nm M' → rv_DR M0' fa sa ca R → M0'.1 dl 3 = (r : Int) → Q none G M') (n + 1) R 0 0) : mj_R mj_tab (d + 8) 22 [.inr (.inr (some dl)), .inr (.inr (some tp)), .inr (.inr (some pl))] G M Q := by
  have gtp := hA.1.1
  refine ⟨Nat.le_of_ble_eq_true rfl, ?_⟩
  show wz (d + 7) mt_X1_readRows.2.2.2.2.1 Q mt_X1_readRows.2.2.2.2.1 [some (.inr (.inr (some dl))), some (.inr (.inr (some tp))), some (.inr (.inr (some pl))), none] [] G M _ _
  refine w_aln rfl ?_
  refine w_cv (st := []) rfl gtp rfl (Nat.le_of_ble_eq_true rfl) (fun kk h => h) (r_adv0 (d := d + 4) hA.1 hS (Nat.zero_le n) (fun M1 s1 => ?_))
  rw [← hA.2] at s1
  refine w_ic ?_
  refine w_isn ?_
  exact r_deals1 hb (n + 1) 0 0 R M0 M1 _ _ (by omega) (Nat.zero_le n) (Nat.le_refl 0) hA hD rv_dfo.refl s1 hR hdb hcn h3 h
end
section
/-! ===== the class's contracts (laid by a program) ===== -/
/-- where the object's parts lie for contracts -/
def rc_X (G : mj_G) (M : mj_M) (x tp pl sp nw dn dl fa sa ca : Nat) : Prop := (G x = (1011, 0) ∧ G sp = (1007, 0) ∧ G nw = (1007, 0) ∧ rv_D G M dl fa sa ca ∧ sp ≠ nw) ∧ M.2.2 x 0 = some tp ∧ M.2.2 x 1 = some nw ∧ M.2.2 x 2 = some sp ∧ M.2.2 sp 1 = some dl ∧ M.2.2 nw 1 = some dn ∧ M.2.2 nw 0 = some pl
/-- the state behind contracts() that reads CONTRACTS -/
def rc_O (nw sp dn dl fa sa ca : Nat) (R : Nat → Int) (r : Nat) (M' : mj_M) : Prop := M'.2.2 nw 1 = some dl ∧ M'.2.2 sp 1 = some dn ∧ rv_DR M' fa sa ca R ∧ M'.1 dl 3 = (r : Int)
def rc_F (nw sp dn dl : Nat) (M' : mj_M) : Prop := M'.2.2 nw 1 = some dn ∧ M'.2.2 sp 1 = some dl
/-- what contracts leaves as it was -/
def rc_fr (x tp dl fa sa ca : Nat) (tr br : Nat → Nat) (pl wa oa : Nat) (M M' : mj_M) : Prop := ∀ a, a ≠ x → a ≠ tp → a ≠ dl → a ≠ fa → a ≠ sa → a ≠ ca → a ≠ pl → a ≠ wa → a ≠ oa → (∀ t, t < 8 → a ≠ tr t) → (∀ t, t < 8 → a ≠ br t) → M'.1 a = M.1 a
/-- the references are as they were, but the tape's word and the two CONTRACTS -/
def rc_fq (tp nw sp : Nat) (M M' : mj_M) : Prop := ∀ a j, ¬ (a = tp ∧ j = 9) → ¬ (a = nw ∧ j = 1) → ¬ (a = sp ∧ j = 1) → M'.2.2 a j = M.2.2 a j
theorem rc_tl_F {G : mj_G} {M0 M : mj_M} {B : Nat → Int} {n lim tp bc pl na ta ba wa oa : Nat} {tr br : Nat → Nat} {T : Nat → Nat × Nat × Int × List Int × Nat} {Q : mj_P} {d : Nat} {x sp nw dn dl fa sa ca : Nat} (hA : rv_AT G M0 B n lim tp bc pl na ta ba wa oa tr br T) (hX : rc_X G M0 x tp pl sp nw dn dl fa sa ca) {f : Int} {a : Nat} (hF : rv_F tp pl na wa oa tr br M0 f a M) (hQ : ∀ M', rc_F nw sp dn dl M' → rc_fr x tp dl fa sa ca tr br pl wa oa M0 M' → rc_fq tp nw sp M0 M' → Q (some (.inl (rv_vf a))) G M') : ∀ cb sb, wz (d + 8) mt_X11_contracts.2.2.2.2.1 Q (mt_X11_contracts.2.2.2.2.1.drop 17) [some (.inr (.inr (some x))), some (.inr (.inr (some dl)))] [] G M cb sb := by
  obtain ⟨⟨gtp, gbc, gpl, gna, gta, gba, gwa, goa, gtr, gbr, itr, ibr, r1, r2, r3, r4, r5, r6, r7, r8, rb, rw0, n1, n2, hIw⟩, hT⟩ := id hA
  obtain ⟨⟨gx, gsp, gnw, hD, hsn⟩, x_x0, x_x1, x_x2, x_sp1, x_nw1, x_nw0⟩ := id hX
  obtain ⟨gdl, gfa, gsa, gca, -⟩ := id hD
  have hx : ∀ x ∈ [1002, 16100, 17100, 18100], x ≠ 1008 ∧ x ≠ 1004 ∧ x ≠ 29100 ∧ x ≠ 30100 ∧ x ≠ 26100 ∧ x ≠ 28100 := by decide
  obtain ⟨f2, f3, ⟨w1, w2, hfr⟩, f0⟩ := hF
  intro cb sb
  refine w_aln rfl ?_
  refine w_gr gx rfl (by decide) rfl ((hfr x 0 (fun e => absurd e.1 (hn_ne gx gtp (by decide)))).trans x_x0) ?_
  refine w_gi gtp rfl (by decide) rfl (f2) ?_
  refine w_ifne (fun c1 => ?_) (fun c1 => ?_)
  · skip
    refine w_aln rfl ?_
    refine w_aln rfl ?_
    refine w_gi gdl rfl (by decide) rfl (rfl) ?_
    refine w_cv (st := []) rfl gx rfl (Nat.le_of_ble_eq_true rfl) (fun kk h => h) ⟨Nat.le_of_ble_eq_true rfl, ?_⟩
    show wz (d + 7) mt_X11_closeTape.2.2.2.2.1 _ mt_X11_closeTape.2.2.2.2.1 [some (.inr (.inr (some x))), some (.inl (M.1 dl 3))] [] _ _ _ _
    refine w_aln rfl ?_
    refine w_gr gx rfl (by decide) rfl ((hfr x 0 (fun e => absurd e.1 (hn_ne gx gtp (by decide)))).trans x_x0) ?_
    refine w_ic ?_
    refine w_pi gtp rfl (by decide) rfl (fun q => by cases q) ?_
    refine w_aln rfl ?_
    refine w_aln rfl ?_
    refine w_gr gx rfl (by decide) rfl ((hfr x 0 (fun e => absurd e.1 (hn_ne gx gtp (by decide)))).trans x_x0) ?_
    refine w_gi gtp rfl (by decide) rfl ((hn_n (Or.inr (by decide))).trans (f2)) ?_
    refine w_pi gx rfl (by decide) rfl (fun q => by cases q) ?_
    refine w_aln rfl ?_
    refine w_gi gx rfl (by decide) rfl (hn_s) ?_
    refine w_ifne (fun c2 => ?_) (fun c2 => ?_)
    · skip
      refine w_ic ?_
      refine w_aln rfl ?_
      refine w_gr gx rfl (by decide) rfl ((hfr x 0 (fun e => absurd e.1 (hn_ne gx gtp (by decide)))).trans x_x0) ?_
      refine w_gi gtp rfl (by decide) rfl ((hn_n (Or.inr (by decide))).trans ((hn_n (Or.inr (by decide))).trans (f3))) ?_
      refine w_subw ?_
      intro z3 hz3 ez3
      refine w_iret (fun q => by cases q) ?_
      have ev : z3 = rv_vf a := ez3
      refine w_iret (fun q => by cases q) ?_
      rw [ev]
      exact hQ _ ⟨(hfr nw 1 (fun e => absurd e.1 (hn_ne gnw gtp (by decide)))).trans x_nw1, (hfr sp 1 (fun e => absurd e.1 (hn_ne gsp gtp (by decide)))).trans x_sp1⟩ (fun a a0 a1 a2 a3 a4 a5 a6 a7 a8 a9 b0 => (wz_c a0).trans ((wz_c a1).trans (w1 a a1 a6 a7 a8 a9 b0))) (fun a j h1 _ _ => hfr a j h1)
    · exfalso; omega
  · exfalso; omega
theorem rc_tl_O {G : mj_G} {M0 M : mj_M} {B : Nat → Int} {n lim tp bc pl na ta ba wa oa : Nat} {tr br : Nat → Nat} {T : Nat → Nat × Nat × Int × List Int × Nat} {Q : mj_P} {d : Nat} {x sp nw dn dl fa sa ca : Nat} (hA : rv_AT G M0 B n lim tp bc pl na ta ba wa oa tr br T) (hX : rc_X G M0 x tp pl sp nw dn dl fa sa ca) {PL WA OA : Nat → Int} {TO BI : Nat → Nat → Int} {nm : Nat → List Int} {t : Nat × Nat × Int × List Int × Nat} {R : Nat → Int} {r : Nat} (hS : rv_S G M0 n lim tp pl na wa oa tr br t PL WA OA TO BI nm M) (hR : rv_DR M0 fa sa ca R) (h3 : M0.1 dl 3 = (r : Int)) (hQ : ∀ M', rc_O nw sp dn dl fa sa ca R r M' → rc_fr x tp dl fa sa ca tr br pl wa oa M0 M' → rc_fq tp nw sp M0 M' → Q (some (.inl (r : Int))) G M') : ∀ cb sb, wz (d + 8) mt_X11_contracts.2.2.2.2.1 Q (mt_X11_contracts.2.2.2.2.1.drop 17) [some (.inr (.inr (some x))), some (.inr (.inr (some dl)))] [] G M cb sb := by
  obtain ⟨⟨gtp, gbc, gpl, gna, gta, gba, gwa, goa, gtr, gbr, itr, ibr, r1, r2, r3, r4, r5, r6, r7, r8, rb, rw0, n1, n2, hIw⟩, hT⟩ := id hA
  obtain ⟨⟨gx, gsp, gnw, hD, hsn⟩, x_x0, x_x1, x_x2, x_sp1, x_nw1, x_nw0⟩ := id hX
  obtain ⟨gdl, gfa, gsa, gca, -⟩ := id hD
  have hx : ∀ x ∈ [1002, 16100, 17100, 18100], x ≠ 1008 ∧ x ≠ 1004 ∧ x ≠ 29100 ∧ x ≠ 30100 ∧ x ≠ 26100 ∧ x ≠ 28100 := by decide
  have hfr := hS.2.2.2.2.2.2.2.2.2.2
  have f2 := hS.1.2.2
  have w1 := hS.2.2.2.2.2.2.2.2.1
  have e3 := (congrFun (rv_S.fx hA hS gdl (hx _ (by decide))) 3).trans h3
  have efa := rv_S.fx hA hS gfa (hx _ (by decide))
  have esa := rv_S.fx hA hS gsa (hx _ (by decide))
  have eca := rv_S.fx hA hS gca (hx _ (by decide))
  intro cb sb
  refine w_aln rfl ?_
  refine w_gr gx rfl (by decide) rfl ((hfr x 0 (fun e => absurd e.1 (hn_ne gx gtp (by decide)))).trans x_x0) ?_
  refine w_gi gtp rfl (by decide) rfl (f2) ?_
  refine w_ifne (fun c1 => ?_) (fun c1 => ?_)
  · exfalso; omega
  · skip
    refine w_aln rfl ?_
    refine w_gr gx rfl (by decide) rfl ((hfr x 2 (fun e => absurd e.1 (hn_ne gx gtp (by decide)))).trans x_x2) ?_
    refine w_aln rfl ?_
    refine w_gr gx rfl (by decide) rfl ((hfr x 1 (fun e => absurd e.1 (hn_ne gx gtp (by decide)))).trans x_x1) ?_
    refine w_gr gnw rfl (by decide) rfl ((hfr nw 1 (fun e => absurd e.1 (hn_ne gnw gtp (by decide)))).trans x_nw1) ?_
    refine w_pr gsp rfl (by decide) rfl ?_
    refine w_aln rfl ?_
    refine w_gr gx rfl (by decide) rfl ((wz_nr (Or.inl (hn_ne gx gsp (by decide)))).trans ((hfr x 1 (fun e => absurd e.1 (hn_ne gx gtp (by decide)))).trans x_x1)) ?_
    refine w_aln rfl ?_
    refine w_pr gnw rfl (by decide) rfl ?_
    refine w_aln rfl ?_
    refine w_aln rfl ?_
    refine w_gi gdl rfl (by decide) rfl (e3) ?_
    refine w_cv (st := []) rfl gx rfl (Nat.le_of_ble_eq_true rfl) (fun kk h => h) ⟨Nat.le_of_ble_eq_true rfl, ?_⟩
    show wz (d + 7) mt_X11_closeTape.2.2.2.2.1 _ mt_X11_closeTape.2.2.2.2.1 [some (.inr (.inr (some x))), some (.inl (r : Int))] [] _ _ _ _
    refine w_aln rfl ?_
    refine w_gr gx rfl (by decide) rfl ((wz_nr (Or.inr (by decide))).trans ((wz_nr (Or.inr (by decide))).trans ((hfr x 0 (fun e => absurd e.1 (hn_ne gx gtp (by decide)))).trans x_x0))) ?_
    refine w_ic ?_
    refine w_pi gtp rfl (by decide) rfl (fun q => by cases q) ?_
    refine w_aln rfl ?_
    refine w_aln rfl ?_
    refine w_gr gx rfl (by decide) rfl ((wz_nr (Or.inr (by decide))).trans ((wz_nr (Or.inr (by decide))).trans ((hfr x 0 (fun e => absurd e.1 (hn_ne gx gtp (by decide)))).trans x_x0))) ?_
    refine w_gi gtp rfl (by decide) rfl ((hn_n (Or.inr (by decide))).trans (f2)) ?_
    refine w_pi gx rfl (by decide) rfl (fun q => by cases q) ?_
    refine w_aln rfl ?_
    refine w_gi gx rfl (by decide) rfl (hn_s) ?_
    refine w_ifne (fun c2 => ?_) (fun c2 => ?_)
    · exfalso; omega
    · skip
      refine w_iln rfl ?_
      refine w_goto ?_
      refine w_iret (fun q => by cases q) ?_
      exact w_iret (fun q => by cases q) (hQ _ ⟨wz_sr, (wz_nr (Or.inl (hsn))).trans (wz_sr), fun j hj => ⟨(congrFun ((wz_c (hn_ne gfa gx (by decide))).trans ((wz_c (hn_ne gfa gtp (by decide))).trans (efa))) j).trans (hR j hj).1, (congrFun ((wz_c (hn_ne gsa gx (by decide))).trans ((wz_c (hn_ne gsa gtp (by decide))).trans (esa))) j).trans (hR j hj).2.1, (congrFun ((wz_c (hn_ne gca gx (by decide))).trans ((wz_c (hn_ne gca gtp (by decide))).trans (eca))) j).trans (hR j hj).2.2⟩, (hn_n (Or.inr (by decide))).trans ((hn_n (Or.inr (by decide))).trans (e3))⟩ (fun a a0 a1 a2 a3 a4 a5 a6 a7 a8 a9 b0 => (wz_c a0).trans ((wz_c a1).trans (w1 a a1 a6 a7 a8 a9 b0))) (fun a j h1 h2 h3 => (wz_nr (by omega)).trans ((wz_nr (by omega)).trans (hfr a j h1))))
theorem rc_fr.tr {x tp dl fa sa ca : Nat} {tr br : Nat → Nat} {pl wa oa : Nat} {M0 M M' : mj_M} (h : rv_dfo dl fa sa ca M0 M) (h2 : rc_fr x tp dl fa sa ca tr br pl wa oa M M') : rc_fr x tp dl fa sa ca tr br pl wa oa M0 M' := fun a a0 a1 a2 a3 a4 a5 a6 a7 a8 a9 b0 => (h2 a a0 a1 a2 a3 a4 a5 a6 a7 a8 a9 b0).trans (h.1 a a2 a3 a4 a5)
theorem rc_fq.tr {tp nw sp dl fa sa ca : Nat} {M0 M M' : mj_M} (h : rv_dfo dl fa sa ca M0 M) (h2 : rc_fq tp nw sp M M') : rc_fq tp nw sp M0 M' := fun a j h3 h4 h5 => (h2 a j h3 h4 h5).trans (by rw [h.2])
theorem rc_X.mv {G : mj_G} {M M' : mj_M} {x tp pl sp nw dn dl fa sa ca : Nat} (h : rc_X G M x tp pl sp nw dn dl fa sa ca) (e : M'.2 = M.2) : rc_X G M' x tp pl sp nw dn dl fa sa ca := by unfold rc_X rv_D at *; rw [e]; exact h
theorem r_X11_contracts {G : mj_G} {M : mj_M} {B : Nat → Int} {n tp bc pl na ta ba wa oa : Nat} {tr br : Nat → Nat} {T : Nat → Nat × Nat × Int × List Int × Nat} {Q : mj_P} {d : Nat} {x sp nw dn dl fa sa ca : Nat} {nm : Nat → List Int} (hA : rv_AT G M B n 400 tp bc pl na ta ba wa oa tr br T) (hX : rc_X G M x tp pl sp nw dn dl fa sa ca) (hn : M.1 tp 1 = (n : Int)) (hN : ∀ s, s < 8 → M.2.1 na s = rv_5 (nm s) ∧ rv_wo (nm s)) (hb : rv_pb (M.1 pl)) (h : sp_deals T nm (M.1 pl 4) (fun f a => ∀ M', rc_F nw sp dn dl M' → rc_fr x tp dl fa sa ca tr br pl wa oa M M' → rc_fq tp nw sp M M' → Q (some (.inl (rv_vf a))) G M') (fun R r => rv_db (M.1 pl 4) R → ∀ M', rc_O nw sp dn dl fa sa ca R r M' → rc_fr x tp dl fa sa ca tr br pl wa oa M M' → rc_fq tp nw sp M M' → Q (some (.inl (r : Int))) G M') (n + 1) (fun _ => 0) 0 0) : mj_R mj_tab (d + 9) 117 [.inr (.inr (some x))] G M Q := by
  obtain ⟨⟨gtp, gbc, gpl, gna, gta, gba, gwa, goa, gtr, gbr, itr, ibr, r1, r2, r3, r4, r5, r6, r7, r8, rb, rw0, n1, n2, hIw⟩, hT⟩ := id hA
  obtain ⟨⟨gx, gsp, gnw, hD, hsn⟩, x_x0, x_x1, x_x2, x_sp1, x_nw1, x_nw0⟩ := id hX
  obtain ⟨gdl, gfa, gsa, gca, -⟩ := id hD
  refine ⟨Nat.le_of_ble_eq_true rfl, ?_⟩
  show wz (d + 8) mt_X11_contracts.2.2.2.2.1 Q mt_X11_contracts.2.2.2.2.1 [some (.inr (.inr (some x))), none] [] G M _ _
  refine w_aln rfl ?_
  refine w_gr gx rfl (by decide) rfl x_x2 ?_
  refine w_gr gsp rfl (by decide) rfl x_sp1 ?_
  refine w_asn ?_
  show wz _ _ _ _ [some (.inr (.inr (some x))), some (.inr (.inr (some dl)))] _ _ _ _ _
  refine w_aln rfl ?_
  refine w_cv (st := []) rfl gdl rfl (Nat.le_of_ble_eq_true rfl) (fun kk h => h) (r_X1_clear (d := d + 7) hD (fun M1 u2 u1 uz u3 => ?_))
  have o1 : rv_dfo dl fa sa ca M M1 := ⟨u1, u2⟩
  have A1 := hA.dfo hD o1
  have X1 := hX.mv u2
  have tpf : M1.1 tp = M.1 tp := u1 tp (hn_ne gtp gdl (by decide)) (hn_ne gtp gfa (by decide)) (hn_ne gtp gsa (by decide)) (hn_ne gtp gca (by decide))
  have plf : M1.1 pl = M.1 pl := u1 pl (hn_ne gpl gdl (by decide)) (hn_ne gpl gfa (by decide)) (hn_ne gpl gsa (by decide)) (hn_ne gpl gca (by decide))
  refine w_aln rfl ?_
  refine w_gr gx rfl (by decide) rfl (by rw [u2]; exact x_x0) ?_
  refine w_sp ?_
  refine w_cv (st := []) rfl gtp rfl (Nat.le_of_ble_eq_true rfl) (fun kk h => h) ⟨Nat.le_of_ble_eq_true rfl, ?_⟩
  show wz (d + 7) mt_X7_open.2.2.2.2.1 _ mt_X7_open.2.2.2.2.1 [some (.inr (.inr (some tp))), some (.inl 400)] [] _ _ _ _
  refine w_aln rfl ?_
  refine w_iln rfl ?_
  refine w_pi gtp rfl (by decide) rfl (fun q => by cases q) ?_
  refine w_aln rfl ?_
  refine w_ic ?_
  refine w_pi gtp rfl (by decide) rfl (fun q => by cases q) ?_
  refine w_aln rfl ?_
  refine w_ic ?_
  refine w_pi gtp rfl (by decide) rfl (fun q => by cases q) ?_
  refine w_aln rfl ?_
  refine w_ic ?_
  refine w_pi gtp rfl (by decide) rfl (fun q => by cases q) ?_
  refine w_ret ?_
  refine w_aln rfl ?_
  refine w_aln rfl ?_
  refine w_gr gx rfl (by decide) rfl (by show M1.2.2 x 0 = _; rw [u2]; exact x_x0) ?_
  refine w_aln rfl ?_
  refine w_gr gx rfl (by decide) rfl (by show M1.2.2 x 1 = _; rw [u2]; exact x_x1) ?_
  refine w_gr gnw rfl (by decide) rfl (by show M1.2.2 nw 0 = _; rw [u2]; exact x_nw0) ?_
  have e4 : ∀ b, b ≠ tp → (mj_p0 (mj_p0 (mj_p0 (mj_p0 M1 tp 10 400) tp 11 0) tp 2 0) tp 3 0).1 b = M1.1 b := fun b hb => (wz_c hb).trans ((wz_c hb).trans ((wz_c hb).trans (wz_c hb)))
  have S0 : rv_S0 G M1 n 400 tp pl na wa oa tr br 0 (M.1 pl) (M1.1 wa) (M1.1 oa) (fun s => M1.1 (tr s)) (fun s => M1.1 (br s)) nm (mj_p0 (mj_p0 (mj_p0 (mj_p0 M1 tp 10 400) tp 11 0) tp 2 0) tp 3 0) := ⟨⟨(hn_n (Or.inr (by decide))).trans ((hn_n (Or.inr (by decide))).trans ((hn_n (Or.inr (by decide))).trans ((hn_n (Or.inr (by decide))).trans ((congrFun tpf 1).trans hn)))), (hn_n (Or.inr (by decide))).trans ((hn_n (Or.inr (by decide))).trans ((hn_n (Or.inr (by decide))).trans hn_s)), (hn_n (Or.inr (by decide))).trans hn_s⟩, (hn_n (Or.inr (by decide))).trans ((hn_n (Or.inr (by decide))).trans hn_s), (e4 pl (hn_ne gpl gtp (by decide))).trans plf, e4 wa (hn_ne gwa gtp (by decide)), e4 oa (hn_ne goa gtp (by decide)), fun s hs => e4 _ (hn_ne (gtr s hs) gtp (by decide)), fun s hs => e4 _ (hn_ne (gbr s hs) gtp (by decide)), fun s hs => ⟨by show M1.2.1 na s = _; rw [u2]; exact (hN s hs).1, (hN s hs).2⟩, fun a a1 a2 a3 a4 a5 a6 => e4 a a1, fun a a1 _ => rfl, fun a j _ => rfl⟩
  have R1 : rv_DR M1 fa sa ca (fun _ => 0) := fun j hj => ⟨(uz j hj).1, (uz j hj).2.1, (uz j hj).2.2⟩
  refine w_cv (st := []) rfl gdl rfl (Nat.le_of_ble_eq_true rfl) (fun kk h => h) (r_X1_readRows (d := d) hb A1 (hD.mv u2) S0 R1 (fun j _ => Or.inl ⟨rfl, rfl, rfl⟩) rfl u3 (sp_deals.mono (fun f a hf M2 M3 o2 F => ?_) (fun R r hk hdb M2 M3 q2 A2 o2 s2 dR d3 => ?_) _ _ _ _ h))
  · exact rc_tl_F (A1.dfo (hD.mv u2) o2) (X1.mv o2.2) F (fun M' a b c => hf M' a (b.tr (o1.trans o2)) (c.tr (o1.trans o2))) _ _
  · exact rc_tl_O A2 (X1.mv o2.2) s2 dR d3 (fun M' a b c => hk hdb M' a (b.tr (o1.trans o2)) (c.tr (o1.trans o2))) _ _
end
section
/-! ===== the reference reads CONTRACTS (laid by a program) ===== -/
def rq_do (rd : Nat) (M0 M : mj_M) : Prop := (∀ a, a ≠ rd → M.1 a = M0.1 a) ∧ M.2 = M0.2
theorem rq_do.refl {rd : Nat} {M0 : mj_M} : rq_do rd M0 M0 := ⟨fun _ _ => rfl, rfl⟩
theorem rq_do.trans {rd : Nat} {M0 M1 M2 : mj_M} (h1 : rq_do rd M0 M1) (h2 : rq_do rd M1 M2) : rq_do rd M0 M2 := ⟨fun a h => (h2.1 a h).trans (h1.1 a h), h2.2.trans h1.2⟩
theorem rq_do.put {rd j : Nat} {v : Int} {M0 M1 : mj_M} (h : rq_do rd M0 M1) : rq_do rd M0 (mj_p0 M1 rd j v) := ⟨fun a ha => (wz_c ha).trans (h.1 a ha), h.2⟩
theorem rq_36 {f R : Nat → Int} {j : Nat} {v : Int} (h : ∀ k, k < 36 → f k = R k) : ∀ k, k < 36 → rv_up f j v k = rv_up R j v k := fun k hk => by
  unfold rv_up
  split
  · rfl
  · exact h k hk
theorem rq_put36 {M : mj_M} {rd j : Nat} {v : Int} {R : Nat → Int} (h : ∀ k, k < 36 → M.1 rd k = R k) : ∀ k, k < 36 → (mj_p0 M rd j v).1 rd k = rv_up R j v k := by
  rw [wz_u]; exact rq_36 h
theorem rq_A.do {G : mj_G} {M0 M1 : mj_M} {B : Nat → Int} {n lim m bt ns rs rd : Nat} {T : Nat → Nat × Nat × Int × List Int × Nat} (hB : rq_A G M0 B n lim m bt ns rs T) (grd : G rd = (53100, 135)) (h : rq_do rd M0 M1) : rq_A G M1 B n lim m bt ns rs T := by
  obtain ⟨⟨gm, gbt, gns, grs, r1, r9, r10, rb, rr, n1, n2, m3, m5⟩, hT⟩ := id hB
  exact ⟨⟨gm, gbt, gns, grs, by rw [h.2]; exact r1, by rw [h.2]; exact r9, by rw [h.2]; exact r10, fun k => by rw [h.1 bt (hn_ne gbt grd (by decide))]; exact rb k, fun k hk => by rw [h.2]; exact rr k hk, n1, n2, by rw [h.1 m (hn_ne gm grd (by decide))]; exact m3, by rw [h.1 m (hn_ne gm grd (by decide))]; exact m5⟩, hT⟩
set_option maxHeartbeats 4000000 in
theorem rq_dR_10 {G : mj_G} {M0 M : mj_M} {B : Nat → Int} {n lim m bt ns rs sx rd : Nat} {T : Nat → Nat × Nat × Int × List Int × Nat} {nm : Nat → List Int} {c0 : Int} {R : Nat → Int} {Q : mj_P} {d q : Nat} (hB : rq_A G M0 B n lim m bt ns rs T) (hS : rq_S M0 m (T q) M) (hqn : q ≤ n) (gsx : G sx = (51100, 537)) (grd : G rd = (53100, 135)) (r6 : M0.2.2 m 6 = some sx) (r8 : M0.2.2 m 8 = some rd) (c1_ : 0 ≤ c0) (c2_ : c0 ≤ 8) (hc0 : M0.1 sx 0 = c0) (hN : ∀ k : Nat, (k : Int) < c0 → M0.2.1 ns k = rv_8 (nm k) ∧ rv_wo (nm k)) (hRd : ∀ k, k < 36 → M0.1 rd k = R k) (hdb : rv_db c0 R) (hk1 : (T q).1 = 1) (hj : rv_rs.getD 10 [] = (T q).2.2.2.1) (h : sp_dlet T nm c0 R q (fun f a => ∀ M0' M', rq_do rd M0 M0' → rq_F M0' m f a M' → Q (some (.inl 0)) G M') (fun R' q' => q ≤ q' → q' ≤ n → rv_db c0 R' → rv_cn R' 12 = rv_cn R 12 + 1 → ∀ M0' M', rq_do rd M0 M0' → rq_S M0' m (T (rv_x T q')) M' → (∀ k, k < 36 → M0'.1 rd k = R' k) → Q (some (.inl 1)) G M')) : mj_R mj_tab (d + 5) 180 [.inr (.inr (some m))] G M Q := by
  obtain ⟨⟨gm, gbt, gns, grs, r1, r9, r10, rb, rr, n1, n2, m3, m5⟩, hT⟩ := id hB
  unfold sp_dlet at h
  have hge : ∀ k, k < 12 → 0 ≤ R (3 * k) := fun k hk => by rcases hdb k hk with e | e | e <;> omega
  refine ⟨Nat.le_of_ble_eq_true rfl, ?_⟩
  show wz (d + 4) mt_X12_dealRow.2.2.2.2.1 Q mt_X12_dealRow.2.2.2.2.1 [some (.inr (.inr (some m))), none, none, none, none] [] G M _ _
  refine w_aln rfl ?_
  refine w_l2 ?_
  refine w_cv (st := []) rfl gm rfl (Nat.le_of_ble_eq_true rfl) (fun kk h => h) (rq_isWord1 (d := d + 3) (i := 10) hB hS hqn (by decide) (by decide +kernel) ⟨hk1, hj⟩ ?_)
  refine w_isn ?_
  show wz _ _ _ _ [some (.inr (.inr (some m))), some (.inl 1), none, none, none] _ _ _ _ _
  refine w_iln rfl ?_
  refine w_ifne (fun c1 => ?_) (fun c1 => ?_)
  · skip
    refine w_aln rfl ?_
    refine w_cv (st := []) rfl gm rfl (Nat.le_of_ble_eq_true rfl) (fun kk h => h) (rq_nxtT (d := d + 2) hB hS (by omega) (by omega) hqn (fun Ms2 s2 gs2 => ?_))
    refine w_aln rfl ?_
    have t3 := rv_tkc_f (rq_y_w hB (rq_y_le hB hqn)).1
    refine w_gi gm rfl (by decide) rfl (s2.1.1) ?_
    refine w_ic ?_
    refine w_cmeq (fun c4 => ?_) (fun c4 => ?_)
    · skip
      refine w_aln rfl ?_
      have nn5 := s2.1.2.2.2.1 (by omega)
      refine w_gi gm rfl (by decide) rfl ((s2.1.2.2.2.1 (by omega)).1) ?_
      refine w_bp ?_
      refine w_cmle (fun c6 => ?_) (fun c6 => ?_)
      · skip
        refine w_ic ?_
        refine w_aln rfl ?_
        have nn7 := s2.1.2.2.2.1 (by omega)
        refine w_gi gm rfl (by decide) rfl ((s2.1.2.2.2.1 (by omega)).1) ?_
        refine w_mul ⟨by show (-2147483648 : Int) ≤ 3 * ((T (rv_x T q)).2.2.1); omega, by show 3 * ((T (rv_x T q)).2.2.1) < (2147483648 : Int); omega⟩ ?_
        refine w_isn ?_
        show wz _ _ _ _ [some (.inr (.inr (some m))), some (.inl 1), some (.inl (3 * ((T (rv_x T q)).2.2.1))), none, none] _ _ _ _ _
        refine w_aln rfl ?_
        refine w_gr gm rfl (by decide) rfl ((congrFun (congrFun s2.2.2.2.1 m) 8).trans r8) ?_
        refine w_iln rfl ?_
        have g8 := hge ((T (rv_x T q)).2.2.1).toNat (by omega)
        refine w_iald (v := (R (3 * ((T (rv_x T q)).2.2.1).toNat))) grd rfl (by show (0 : Int) ≤ 3 * ((T (rv_x T q)).2.2.1); omega) (by show 3 * ((T (rv_x T q)).2.2.1) < ((135 : Nat) : Int); omega) (by rw [show (3 * ((T (rv_x T q)).2.2.1)).toNat = 3 * ((T (rv_x T q)).2.2.1).toNat by omega, congrFun (s2.2.1 rd (hn_ne grd gm (by decide))) _]; exact hRd _ (by omega)) ?_
        refine w_ifle (fun c9 => ?_) (fun c9 => ?_)
        · skip
          refine w_aln rfl ?_
          refine w_cv (st := []) rfl gm rfl (Nat.le_of_ble_eq_true rfl) (fun kk h => h) (rq_nxtT (d := d + 2) hB s2 (by omega) (by omega) (rq_y_le hB hqn) (fun Ms10 s10 gs10 => ?_))
          refine w_iln rfl ?_
          refine w_ifne (fun c11 => ?_) (fun c11 => ?_)
          · skip
            refine w_aln rfl ?_
            have h12 := h.1 (by omega)
            clear h
            have h13 := h12.1 (by omega)
            clear h12
            have h14 := h13.1 (by omega)
            clear h13
            have h15 := h14.1 (by omega)
            clear h14
            refine w_cv (st := []) rfl gm rfl (Nat.le_of_ble_eq_true rfl) (fun kk h => h) (rq_isName (d := d + 3) hB s10 (rq_y_le hB (rq_y_le hB hqn)) (fun bk16 ck16 => ?_) (fun ck16 => ?_))
            · skip
              have hvk16 := (h15.1 bk16).1 ck16
              refine w_ifne (fun c17 => ?_) (fun c17 => ?_)
              · skip
                refine w_aln rfl ?_
                refine w_ic ?_
                refine w_aln rfl ?_
                refine w_gr gm rfl (by decide) rfl ((congrFun (congrFun s10.2.2.2.1 m) 6).trans r6) ?_
                refine w_ic ?_
                refine w_iald (v := c0) gsx rfl (by show (0 : Int) ≤ 0; omega) (by show 0 < ((537 : Nat) : Int); omega) ((congrFun (s10.2.1 sx (hn_ne gsx gm (by decide))) 0).trans hc0) ?_
                refine w_cv (st := []) rfl gm rfl (Nat.le_of_ble_eq_true rfl) (fun kk h => h) (rq_find (M0 := M0) (d := d + 3) c1_ c2_ hN hB s10 (by omega) (rq_y_wo hB (rq_y_le hB (rq_y_le hB hqn)) (by omega)) (sp_find.mono hvk16 (fun rk18 lk18 ck18 mk18 hvk18 => ?_) (fun mk18 hvk18 => ?_)))
                · skip
                  refine w_isn ?_
                  show wz _ _ _ _ [some (.inr (.inr (some m))), some (.inl 1), some (.inl (3 * ((T (rv_x T q)).2.2.1))), some (.inl ((rk18 : Nat) : Int)), none] _ _ _ _ _
                  refine w_iln rfl ?_
                  refine w_ifge (fun c19 => ?_) (fun c19 => ?_)
                  · skip
                    refine w_aln rfl ?_
                    refine w_gr gm rfl (by decide) rfl ((congrFun (congrFun s10.2.2.2.1 m) 8).trans r8) ?_
                    refine w_iln rfl ?_
                    refine w_iln rfl ?_
                    refine w_ic ?_
                    refine w_add ⟨by show (-2147483648 : Int) ≤ ((rk18 : Nat) : Int) + 1; omega, by show ((rk18 : Nat) : Int) + 1 < (2147483648 : Int); omega⟩ ?_
                    refine w_iast grd rfl (by decide) (by show (0 : Int) ≤ 3 * ((T (rv_x T q)).2.2.1); omega) (by show 3 * ((T (rv_x T q)).2.2.1) < ((135 : Nat) : Int); omega) ?_
                    rw [show (3 * ((T (rv_x T q)).2.2.1)).toNat = 3 * ((T (rv_x T q)).2.2.1).toNat by omega]
                    have B20 := hB.put (a := rd) (j := (3 * ((T (rv_x T q)).2.2.1).toNat)) (v := ((rk18 : Nat) : Int) + 1) (hn_ne grd gm (by decide)) (hn_ne grd gbt (by decide))
                    have s21 := s10.put (a := rd) (j := (3 * ((T (rv_x T q)).2.2.1).toNat)) (v := ((rk18 : Nat) : Int) + 1) (hn_ne grd gm (by decide))
                    refine w_aln rfl ?_
                    refine w_cv (st := []) rfl gm rfl (Nat.le_of_ble_eq_true rfl) (fun kk h => h) (rq_nxtT (d := d + 2) B20 s21 (by omega) (by omega) (rq_y_le hB (rq_y_le hB hqn)) (fun Ms22 s22 gs22 => ?_))
                    refine w_aln rfl ?_
                    have t23 := rv_tkc_f (rq_y_w hB (rq_y_le hB (rq_y_le hB (rq_y_le hB hqn)))).1
                    refine w_gi gm rfl (by decide) rfl (s22.1.1) ?_
                    refine w_ic ?_
                    refine w_cmne (fun c24 => ?_) (fun c24 => ?_)
                    · skip
                      refine w_aln rfl ?_
                      refine w_ic ?_
                      refine w_sp ?_
                      have h25 := hvk18.2 (by omega)
                      clear hvk18
                      have h26 := h25.2 (by omega)
                      clear h25
                      refine w_cv (st := []) rfl gm rfl (Nat.le_of_ble_eq_true rfl) (fun kk h => h) (rq_takes (d := d + 1) B20 s22 (rq_y_le hB (rq_y_le hB (rq_y_le hB hqn))) (sp_num.mono h26 (fun fk27 ak27 hfk27 => ?_) (fun bk27 ck27 ek27 hvk27 => ?_)))
                      · skip
                        intro Mk27 Fk27
                        refine w_ifne (fun c28 => ?_) (fun c28 => ?_)
                        · exfalso; omega
                        · skip
                          refine w_ic ?_
                          exact w_iret (fun _ => Or.inl rfl) (hfk27 _ _ (rq_do.refl).put Fk27)
                      · skip
                        intro Mk27 sk27 gk27
                        refine w_ifne (fun c29 => ?_) (fun c29 => ?_)
                        · skip
                          refine w_aln rfl ?_
                          refine w_gr gm rfl (by decide) rfl ((congrFun (congrFun sk27.2.2.2.1 m) 8).trans r8) ?_
                          refine w_iln rfl ?_
                          refine w_ic ?_
                          refine w_add ⟨by show (-2147483648 : Int) ≤ (3 * ((T (rv_x T q)).2.2.1)) + 2; omega, by show (3 * ((T (rv_x T q)).2.2.1)) + 2 < (2147483648 : Int); omega⟩ ?_
                          refine w_aln rfl ?_
                          refine w_gi gm rfl (by decide) rfl (gk27) ?_
                          refine w_iast grd rfl (by decide) (by show (0 : Int) ≤ (3 * ((T (rv_x T q)).2.2.1)) + 2; omega) (by show (3 * ((T (rv_x T q)).2.2.1)) + 2 < ((135 : Nat) : Int); omega) ?_
                          rw [show ((3 * ((T (rv_x T q)).2.2.1)) + 2).toNat = 3 * ((T (rv_x T q)).2.2.1).toNat + 2 by omega]
                          have B30 := B20.put (a := rd) (j := (3 * ((T (rv_x T q)).2.2.1).toNat + 2)) (v := (T (rv_x T (rv_x T (rv_x T q)))).2.2.1) (hn_ne grd gm (by decide)) (hn_ne grd gbt (by decide))
                          have s31 := sk27.put (a := rd) (j := (3 * ((T (rv_x T q)).2.2.1).toNat + 2)) (v := (T (rv_x T (rv_x T (rv_x T q)))).2.2.1) (hn_ne grd gm (by decide))
                          refine w_ic ?_
                          have h0 : R (3 * ((T (rv_x T q)).2.2.1).toNat) = 0 := by omega
                          have hz := hdb.z (j := ((T (rv_x T q)).2.2.1).toNat) (by omega) h0
                          have ht : rv_dt3 R (rv_up (rv_up R (3 * ((T (rv_x T q)).2.2.1).toNat) (((rk18 : Nat) : Int) + 1)) (3 * ((T (rv_x T q)).2.2.1).toNat + 2) (T (rv_x T (rv_x T (rv_x T q)))).2.2.1) ((T (rv_x T q)).2.2.1).toNat (((rk18 : Nat) : Int) + 1) 0 ((T (rv_x T (rv_x T (rv_x T q)))).2.2.1) := rv_dt3.eq (rv_dt3_2 (R := R) (j := ((T (rv_x T q)).2.2.1).toNat) hz.1) (by omega) (by omega) (by omega)
                          exact w_iret (fun _ => Or.inr rfl) (hvk27 (Nat.le_trans (Nat.le_trans (Nat.le_trans (Nat.le_refl q) (rq_y_ge hB hqn)) (rq_y_ge hB (rq_y_le hB hqn))) (rq_y_ge hB (rq_y_le hB (rq_y_le hB hqn)))) (rq_y_le hB (rq_y_le hB (rq_y_le hB hqn))) (hdb.set ht.1 (by rw [ht.2.1, ht.2.2.1, ht.2.2.2]; unfold rv_d3; omega)) ((rv_cn_set ht.1 h0 (by rw [ht.2.1]; omega) 12).trans (by rw [if_pos (by omega)])) _ _ ((rq_do.refl).put).put s31 (rq_put36 (rq_put36 hRd)))
                        · exfalso; omega
                    · skip
                      refine w_aln rfl ?_
                      have h32 := hvk18.2 (by omega)
                      clear hvk18
                      have h33 := h32.1 (by omega)
                      clear h32
                      refine w_cv (st := []) rfl gm rfl (Nat.le_of_ble_eq_true rfl) (fun kk h => h) (rq_isName (d := d + 3) B20 s22 (rq_y_le hB (rq_y_le hB (rq_y_le hB hqn))) (fun bk34 ck34 => ?_) (fun ck34 => ?_))
                      · skip
                        have hvk34 := (h33.1 bk34).1 ck34
                        refine w_ifne (fun c35 => ?_) (fun c35 => ?_)
                        · skip
                          refine w_aln rfl ?_
                          refine w_ic ?_
                          refine w_aln rfl ?_
                          refine w_gr gm rfl (by decide) rfl ((congrFun (congrFun s22.2.2.2.1 m) 6).trans r6) ?_
                          refine w_ic ?_
                          refine w_iald (v := c0) gsx rfl (by show (0 : Int) ≤ 0; omega) (by show 0 < ((537 : Nat) : Int); omega) (((congrFun (s22.2.1 sx (hn_ne gsx gm (by decide))) 0).trans (congrFun (wz_c (hn_ne gsx grd (by decide))) 0)).trans hc0) ?_
                          refine w_cv (st := []) rfl gm rfl (Nat.le_of_ble_eq_true rfl) (fun kk h => h) (rq_find (M0 := (mj_p0 M0 rd (3 * ((T (rv_x T q)).2.2.1).toNat) (((rk18 : Nat) : Int) + 1))) (d := d + 3) c1_ c2_ hN B20 s22 (by omega) (rq_y_wo hB (rq_y_le hB (rq_y_le hB (rq_y_le hB hqn))) (by omega)) (sp_find.mono hvk34 (fun rk36 lk36 ck36 mk36 hvk36 => ?_) (fun mk36 hvk36 => ?_)))
                          · skip
                            refine w_is ?_
                            show wz _ _ _ _ [some (.inr (.inr (some m))), some (.inl 1), some (.inl (3 * ((T (rv_x T q)).2.2.1))), some (.inl ((rk18 : Nat) : Int)), some (.inl ((rk36 : Nat) : Int))] _ _ _ _ _
                            refine w_il rfl ?_
                            refine w_iflt (fun c37 => ?_) (fun c37 => ?_)
                            · exfalso; omega
                            · skip
                              refine w_il rfl ?_
                              refine w_iln rfl ?_
                              refine w_cmne (fun c38 => ?_) (fun c38 => ?_)
                              · skip
                                refine w_aln rfl ?_
                                refine w_gr gm rfl (by decide) rfl ((congrFun (congrFun s22.2.2.2.1 m) 8).trans r8) ?_
                                refine w_iln rfl ?_
                                refine w_ic ?_
                                refine w_add ⟨by show (-2147483648 : Int) ≤ (3 * ((T (rv_x T q)).2.2.1)) + 1; omega, by show (3 * ((T (rv_x T q)).2.2.1)) + 1 < (2147483648 : Int); omega⟩ ?_
                                refine w_il rfl ?_
                                refine w_ic ?_
                                refine w_add ⟨by show (-2147483648 : Int) ≤ ((rk36 : Nat) : Int) + 1; omega, by show ((rk36 : Nat) : Int) + 1 < (2147483648 : Int); omega⟩ ?_
                                refine w_iast grd rfl (by decide) (by show (0 : Int) ≤ (3 * ((T (rv_x T q)).2.2.1)) + 1; omega) (by show (3 * ((T (rv_x T q)).2.2.1)) + 1 < ((135 : Nat) : Int); omega) ?_
                                rw [show ((3 * ((T (rv_x T q)).2.2.1)) + 1).toNat = 3 * ((T (rv_x T q)).2.2.1).toNat + 1 by omega]
                                have B39 := B20.put (a := rd) (j := (3 * ((T (rv_x T q)).2.2.1).toNat + 1)) (v := ((rk36 : Nat) : Int) + 1) (hn_ne grd gm (by decide)) (hn_ne grd gbt (by decide))
                                have s40 := s22.put (a := rd) (j := (3 * ((T (rv_x T q)).2.2.1).toNat + 1)) (v := ((rk36 : Nat) : Int) + 1) (hn_ne grd gm (by decide))
                                refine w_aln rfl ?_
                                refine w_cv (st := []) rfl gm rfl (Nat.le_of_ble_eq_true rfl) (fun kk h => h) (rq_nxtT (d := d + 2) B39 s40 (by omega) (by omega) (rq_y_le hB (rq_y_le hB (rq_y_le hB hqn))) (fun Ms41 s41 gs41 => ?_))
                                refine w_aln rfl ?_
                                refine w_ic ?_
                                refine w_sp ?_
                                have h42 := hvk36.2 (by omega)
                                clear hvk36
                                have h43 := h42.2 (by omega)
                                clear h42
                                refine w_cv (st := []) rfl gm rfl (Nat.le_of_ble_eq_true rfl) (fun kk h => h) (rq_takes (d := d + 1) B39 s41 (rq_y_le hB (rq_y_le hB (rq_y_le hB (rq_y_le hB hqn)))) (sp_num.mono h43 (fun fk44 ak44 hfk44 => ?_) (fun bk44 ck44 ek44 hvk44 => ?_)))
                                · skip
                                  intro Mk44 Fk44
                                  refine w_ifne (fun c45 => ?_) (fun c45 => ?_)
                                  · exfalso; omega
                                  · skip
                                    refine w_ic ?_
                                    exact w_iret (fun _ => Or.inl rfl) (hfk44 _ _ ((rq_do.refl).put).put Fk44)
                                · skip
                                  intro Mk44 sk44 gk44
                                  refine w_ifne (fun c46 => ?_) (fun c46 => ?_)
                                  · skip
                                    refine w_aln rfl ?_
                                    refine w_gr gm rfl (by decide) rfl ((congrFun (congrFun sk44.2.2.2.1 m) 8).trans r8) ?_
                                    refine w_iln rfl ?_
                                    refine w_ic ?_
                                    refine w_add ⟨by show (-2147483648 : Int) ≤ (3 * ((T (rv_x T q)).2.2.1)) + 2; omega, by show (3 * ((T (rv_x T q)).2.2.1)) + 2 < (2147483648 : Int); omega⟩ ?_
                                    refine w_aln rfl ?_
                                    refine w_gi gm rfl (by decide) rfl (gk44) ?_
                                    refine w_iast grd rfl (by decide) (by show (0 : Int) ≤ (3 * ((T (rv_x T q)).2.2.1)) + 2; omega) (by show (3 * ((T (rv_x T q)).2.2.1)) + 2 < ((135 : Nat) : Int); omega) ?_
                                    rw [show ((3 * ((T (rv_x T q)).2.2.1)) + 2).toNat = 3 * ((T (rv_x T q)).2.2.1).toNat + 2 by omega]
                                    have B47 := B39.put (a := rd) (j := (3 * ((T (rv_x T q)).2.2.1).toNat + 2)) (v := (T (rv_x T (rv_x T (rv_x T (rv_x T q))))).2.2.1) (hn_ne grd gm (by decide)) (hn_ne grd gbt (by decide))
                                    have s48 := sk44.put (a := rd) (j := (3 * ((T (rv_x T q)).2.2.1).toNat + 2)) (v := (T (rv_x T (rv_x T (rv_x T (rv_x T q))))).2.2.1) (hn_ne grd gm (by decide))
                                    refine w_ic ?_
                                    have h0 : R (3 * ((T (rv_x T q)).2.2.1).toNat) = 0 := by omega
                                    have ht : rv_dt3 R (rv_up (rv_up (rv_up R (3 * ((T (rv_x T q)).2.2.1).toNat) (((rk18 : Nat) : Int) + 1)) (3 * ((T (rv_x T q)).2.2.1).toNat + 1) (((rk36 : Nat) : Int) + 1)) (3 * ((T (rv_x T q)).2.2.1).toNat + 2) (T (rv_x T (rv_x T (rv_x T (rv_x T q))))).2.2.1) ((T (rv_x T q)).2.2.1).toNat (((rk18 : Nat) : Int) + 1) (((rk36 : Nat) : Int) + 1) ((T (rv_x T (rv_x T (rv_x T (rv_x T q))))).2.2.1) := rv_dt3.eq (rv_dt3_3 (R := R) (j := ((T (rv_x T q)).2.2.1).toNat)) (by omega) (by omega) (by omega)
                                    exact w_iret (fun _ => Or.inr rfl) (hvk44 (Nat.le_trans (Nat.le_trans (Nat.le_trans (Nat.le_trans (Nat.le_refl q) (rq_y_ge hB hqn)) (rq_y_ge hB (rq_y_le hB hqn))) (rq_y_ge hB (rq_y_le hB (rq_y_le hB hqn)))) (rq_y_ge hB (rq_y_le hB (rq_y_le hB (rq_y_le hB hqn))))) (rq_y_le hB (rq_y_le hB (rq_y_le hB (rq_y_le hB hqn)))) (hdb.set ht.1 (by rw [ht.2.1, ht.2.2.1, ht.2.2.2]; unfold rv_d3; omega)) ((rv_cn_set ht.1 h0 (by rw [ht.2.1]; omega) 12).trans (by rw [if_pos (by omega)])) _ _ (((rq_do.refl).put).put).put s48 (rq_put36 (rq_put36 (rq_put36 hRd))))
                                  · exfalso; omega
                              · skip
                                refine w_aln rfl ?_
                                refine w_ic ?_
                                have h50 := hvk36.2 (by omega)
                                clear hvk36
                                have h51 := h50.1 (by omega)
                                clear h50
                                refine w_cv (st := []) rfl gm rfl (Nat.le_of_ble_eq_true rfl) (fun kk h => h) (rq_bad (d := d + 3) B20 s22 (fun MF49 F49 => ?_))
                                exact w_iret (fun _ => Or.inl rfl) (h51 _ _ (rq_do.refl).put F49)
                          · skip
                            refine w_is ?_
                            show wz _ _ _ _ [some (.inr (.inr (some m))), some (.inl 1), some (.inl (3 * ((T (rv_x T q)).2.2.1))), some (.inl ((rk18 : Nat) : Int)), some (.inl (-1))] _ _ _ _ _
                            refine w_il rfl ?_
                            refine w_iflt (fun c52 => ?_) (fun c52 => ?_)
                            · skip
                              refine w_aln rfl ?_
                              refine w_ic ?_
                              have h54 := hvk36.1 (by omega)
                              clear hvk36
                              refine w_cv (st := []) rfl gm rfl (Nat.le_of_ble_eq_true rfl) (fun kk h => h) (rq_bad (d := d + 3) B20 s22 (fun MF53 F53 => ?_))
                              exact w_iret (fun _ => Or.inl rfl) (h54 _ _ (rq_do.refl).put F53)
                            · exfalso; omega
                        · exfalso; omega
                      · skip
                        have hvk34 := sp_nam.bad h33 ck34
                        refine w_ifne (fun c55 => ?_) (fun c55 => ?_)
                        · exfalso; omega
                        · skip
                          refine w_aln rfl ?_
                          refine w_ic ?_
                          refine w_cv (st := []) rfl gm rfl (Nat.le_of_ble_eq_true rfl) (fun kk h => h) (rq_bad (d := d + 3) B20 s22 (fun MF56 F56 => ?_))
                          exact w_iret (fun _ => Or.inl rfl) (hvk34 _ _ (rq_do.refl).put F56)
                  · exfalso; omega
                · skip
                  refine w_isn ?_
                  show wz _ _ _ _ [some (.inr (.inr (some m))), some (.inl 1), some (.inl (3 * ((T (rv_x T q)).2.2.1))), some (.inl (-1)), none] _ _ _ _ _
                  refine w_iln rfl ?_
                  refine w_ifge (fun c57 => ?_) (fun c57 => ?_)
                  · exfalso; omega
                  · skip
                    refine w_aln rfl ?_
                    refine w_ic ?_
                    have h59 := hvk18.1 (by omega)
                    clear hvk18
                    refine w_cv (st := []) rfl gm rfl (Nat.le_of_ble_eq_true rfl) (fun kk h => h) (rq_bad (d := d + 3) hB s10 (fun MF58 F58 => ?_))
                    exact w_iret (fun _ => Or.inl rfl) (h59 _ _ rq_do.refl F58)
              · exfalso; omega
            · skip
              have hvk16 := sp_nam.bad h15 ck16
              refine w_ifne (fun c60 => ?_) (fun c60 => ?_)
              · exfalso; omega
              · skip
                refine w_aln rfl ?_
                refine w_ic ?_
                refine w_cv (st := []) rfl gm rfl (Nat.le_of_ble_eq_true rfl) (fun kk h => h) (rq_bad (d := d + 3) hB s10 (fun MF61 F61 => ?_))
                exact w_iret (fun _ => Or.inl rfl) (hvk16 _ _ rq_do.refl F61)
          · exfalso; omega
        · skip
          refine w_aln rfl ?_
          refine w_ic ?_
          have h63 := h.1 (by omega)
          clear h
          have h64 := h63.1 (by omega)
          clear h63
          have h65 := h64.1 (by omega)
          clear h64
          have h66 := h65.2 (by omega)
          clear h65
          refine w_cv (st := []) rfl gm rfl (Nat.le_of_ble_eq_true rfl) (fun kk h => h) (rq_bad (d := d + 3) hB s2 (fun MF62 F62 => ?_))
          exact w_iret (fun _ => Or.inl rfl) (h66 _ _ rq_do.refl F62)
      · skip
        refine w_aln rfl ?_
        refine w_ic ?_
        have h68 := h.1 (by omega)
        clear h
        have h69 := h68.1 (by omega)
        clear h68
        have h70 := h69.2 (by omega)
        clear h69
        refine w_cv (st := []) rfl gm rfl (Nat.le_of_ble_eq_true rfl) (fun kk h => h) (rq_bad (d := d + 3) hB s2 (fun MF67 F67 => ?_))
        exact w_iret (fun _ => Or.inl rfl) (h70 _ _ rq_do.refl F67)
    · skip
      refine w_aln rfl ?_
      refine w_ic ?_
      have h72 := h.2 (by omega)
      clear h
      refine w_cv (st := []) rfl gm rfl (Nat.le_of_ble_eq_true rfl) (fun kk h => h) (rq_bad (d := d + 3) hB s2 (fun MF71 F71 => ?_))
      exact w_iret (fun _ => Or.inl rfl) (h72 _ _ rq_do.refl F71)
  · exfalso; omega
set_option maxHeartbeats 4000000 in
theorem rq_dR_11 {G : mj_G} {M0 M : mj_M} {B : Nat → Int} {n lim m bt ns rs sx rd : Nat} {T : Nat → Nat × Nat × Int × List Int × Nat} {nm : Nat → List Int} {c0 : Int} {R : Nat → Int} {Q : mj_P} {d q : Nat} (hB : rq_A G M0 B n lim m bt ns rs T) (hS : rq_S M0 m (T q) M) (hqn : q ≤ n) (gsx : G sx = (51100, 537)) (grd : G rd = (53100, 135)) (r6 : M0.2.2 m 6 = some sx) (r8 : M0.2.2 m 8 = some rd) (c1_ : 0 ≤ c0) (c2_ : c0 ≤ 8) (hc0 : M0.1 sx 0 = c0) (hN : ∀ k : Nat, (k : Int) < c0 → M0.2.1 ns k = rv_8 (nm k) ∧ rv_wo (nm k)) (hRd : ∀ k, k < 36 → M0.1 rd k = R k) (hdb : rv_db c0 R) (hk1 : (T q).1 = 1) (hj : rv_rs.getD 11 [] = (T q).2.2.2.1) (h : sp_dsea T nm c0 R q (fun f a => ∀ M0' M', rq_do rd M0 M0' → rq_F M0' m f a M' → Q (some (.inl 0)) G M') (fun R' q' => q ≤ q' → q' ≤ n → rv_db c0 R' → rv_cn R' 12 = rv_cn R 12 + 1 → ∀ M0' M', rq_do rd M0 M0' → rq_S M0' m (T (rv_x T q')) M' → (∀ k, k < 36 → M0'.1 rd k = R' k) → Q (some (.inl 1)) G M')) : mj_R mj_tab (d + 5) 180 [.inr (.inr (some m))] G M Q := by
  obtain ⟨⟨gm, gbt, gns, grs, r1, r9, r10, rb, rr, n1, n2, m3, m5⟩, hT⟩ := id hB
  unfold sp_dsea at h
  have hge : ∀ k, k < 12 → 0 ≤ R (3 * k) := fun k hk => by rcases hdb k hk with e | e | e <;> omega
  refine ⟨Nat.le_of_ble_eq_true rfl, ?_⟩
  show wz (d + 4) mt_X12_dealRow.2.2.2.2.1 Q mt_X12_dealRow.2.2.2.2.1 [some (.inr (.inr (some m))), none, none, none, none] [] G M _ _
  refine w_aln rfl ?_
  refine w_l2 ?_
  refine w_cv (st := []) rfl gm rfl (Nat.le_of_ble_eq_true rfl) (fun kk h => h) (rq_isWord0 (d := d + 3) (i := 10) hB hS hqn (by decide) (by decide +kernel) (fun e => absurd (rv_rs_i 10 (by decide) 11 (by decide) (e.2.trans hj.symm)) (by decide)) ?_)
  refine w_isn ?_
  show wz _ _ _ _ [some (.inr (.inr (some m))), some (.inl 0), none, none, none] _ _ _ _ _
  refine w_iln rfl ?_
  refine w_ifne (fun c1 => ?_) (fun c1 => ?_)
  · exfalso; omega
  · skip
    refine w_aln rfl ?_
    refine w_l2 ?_
    refine w_cv (st := []) rfl gm rfl (Nat.le_of_ble_eq_true rfl) (fun kk h => h) (rq_isWord1 (d := d + 3) (i := 11) hB hS hqn (by decide) (by decide +kernel) ⟨hk1, hj⟩ ?_)
    refine w_ifne (fun c2 => ?_) (fun c2 => ?_)
    · skip
      refine w_aln rfl ?_
      refine w_cv (st := []) rfl gm rfl (Nat.le_of_ble_eq_true rfl) (fun kk h => h) (rq_nxtT (d := d + 2) hB hS (by omega) (by omega) hqn (fun Ms3 s3 gs3 => ?_))
      refine w_aln rfl ?_
      have t4 := rv_tkc_f (rq_y_w hB (rq_y_le hB hqn)).1
      refine w_gi gm rfl (by decide) rfl (s3.1.1) ?_
      refine w_ic ?_
      refine w_cmeq (fun c5 => ?_) (fun c5 => ?_)
      · skip
        refine w_aln rfl ?_
        have nn6 := s3.1.2.2.2.1 (by omega)
        refine w_gi gm rfl (by decide) rfl ((s3.1.2.2.2.1 (by omega)).1) ?_
        refine w_bp ?_
        refine w_cmle (fun c7 => ?_) (fun c7 => ?_)
        · skip
          refine w_ic ?_
          refine w_aln rfl ?_
          have nn8 := s3.1.2.2.2.1 (by omega)
          refine w_gi gm rfl (by decide) rfl ((s3.1.2.2.2.1 (by omega)).1) ?_
          refine w_mul ⟨by show (-2147483648 : Int) ≤ 3 * ((T (rv_x T q)).2.2.1); omega, by show 3 * ((T (rv_x T q)).2.2.1) < (2147483648 : Int); omega⟩ ?_
          refine w_isn ?_
          show wz _ _ _ _ [some (.inr (.inr (some m))), some (.inl 0), some (.inl (3 * ((T (rv_x T q)).2.2.1))), none, none] _ _ _ _ _
          refine w_aln rfl ?_
          refine w_gr gm rfl (by decide) rfl ((congrFun (congrFun s3.2.2.2.1 m) 8).trans r8) ?_
          refine w_iln rfl ?_
          have g9 := hge ((T (rv_x T q)).2.2.1).toNat (by omega)
          refine w_iald (v := (R (3 * ((T (rv_x T q)).2.2.1).toNat))) grd rfl (by show (0 : Int) ≤ 3 * ((T (rv_x T q)).2.2.1); omega) (by show 3 * ((T (rv_x T q)).2.2.1) < ((135 : Nat) : Int); omega) (by rw [show (3 * ((T (rv_x T q)).2.2.1)).toNat = 3 * ((T (rv_x T q)).2.2.1).toNat by omega, congrFun (s3.2.1 rd (hn_ne grd gm (by decide))) _]; exact hRd _ (by omega)) ?_
          refine w_ifle (fun c10 => ?_) (fun c10 => ?_)
          · skip
            refine w_aln rfl ?_
            refine w_cv (st := []) rfl gm rfl (Nat.le_of_ble_eq_true rfl) (fun kk h => h) (rq_nxtT (d := d + 2) hB s3 (by omega) (by omega) (rq_y_le hB hqn) (fun Ms11 s11 gs11 => ?_))
            refine w_iln rfl ?_
            refine w_ifne (fun c12 => ?_) (fun c12 => ?_)
            · exfalso; omega
            · skip
              refine w_aln rfl ?_
              refine w_gr gm rfl (by decide) rfl ((congrFun (congrFun s11.2.2.2.1 m) 8).trans r8) ?_
              refine w_iln rfl ?_
              refine w_bp ?_
              refine w_iast grd rfl (by decide) (by show (0 : Int) ≤ 3 * ((T (rv_x T q)).2.2.1); omega) (by show 3 * ((T (rv_x T q)).2.2.1) < ((135 : Nat) : Int); omega) ?_
              rw [show (3 * ((T (rv_x T q)).2.2.1)).toNat = 3 * ((T (rv_x T q)).2.2.1).toNat by omega]
              have B13 := hB.put (a := rd) (j := (3 * ((T (rv_x T q)).2.2.1).toNat)) (v := 9) (hn_ne grd gm (by decide)) (hn_ne grd gbt (by decide))
              have s14 := s11.put (a := rd) (j := (3 * ((T (rv_x T q)).2.2.1).toNat)) (v := 9) (hn_ne grd gm (by decide))
              refine w_ic ?_
              have h15 := h.1 (by omega)
              clear h
              have h16 := h15.1 (by omega)
              clear h15
              have h17 := h16.1 (by omega)
              clear h16
              have h18 := h17.1 (by omega)
              clear h17
              have h0 : R (3 * ((T (rv_x T q)).2.2.1).toNat) = 0 := by omega
              have hz := hdb.z (j := ((T (rv_x T q)).2.2.1).toNat) (by omega) h0
              have ht : rv_dt3 R (rv_up R (3 * ((T (rv_x T q)).2.2.1).toNat) 9) ((T (rv_x T q)).2.2.1).toNat 9 0 0 := rv_dt3.eq (rv_dt3_1 (R := R) (j := ((T (rv_x T q)).2.2.1).toNat) hz.1 hz.2) (by omega) (by omega) (by omega)
              exact w_iret (fun _ => Or.inr rfl) (h18 (Nat.le_trans (Nat.le_refl q) (rq_y_ge hB hqn)) (rq_y_le hB hqn) (hdb.set ht.1 (by rw [ht.2.1, ht.2.2.1, ht.2.2.2]; unfold rv_d3; omega)) ((rv_cn_set ht.1 h0 (by rw [ht.2.1]; omega) 12).trans (by rw [if_pos (by omega)])) _ _ (rq_do.refl).put s14 (rq_put36 hRd))
          · skip
            refine w_aln rfl ?_
            refine w_ic ?_
            have h20 := h.1 (by omega)
            clear h
            have h21 := h20.1 (by omega)
            clear h20
            have h22 := h21.1 (by omega)
            clear h21
            have h23 := h22.2 (by omega)
            clear h22
            refine w_cv (st := []) rfl gm rfl (Nat.le_of_ble_eq_true rfl) (fun kk h => h) (rq_bad (d := d + 3) hB s3 (fun MF19 F19 => ?_))
            exact w_iret (fun _ => Or.inl rfl) (h23 _ _ rq_do.refl F19)
        · skip
          refine w_aln rfl ?_
          refine w_ic ?_
          have h25 := h.1 (by omega)
          clear h
          have h26 := h25.1 (by omega)
          clear h25
          have h27 := h26.2 (by omega)
          clear h26
          refine w_cv (st := []) rfl gm rfl (Nat.le_of_ble_eq_true rfl) (fun kk h => h) (rq_bad (d := d + 3) hB s3 (fun MF24 F24 => ?_))
          exact w_iret (fun _ => Or.inl rfl) (h27 _ _ rq_do.refl F24)
      · skip
        refine w_aln rfl ?_
        refine w_ic ?_
        have h29 := h.2 (by omega)
        clear h
        refine w_cv (st := []) rfl gm rfl (Nat.le_of_ble_eq_true rfl) (fun kk h => h) (rq_bad (d := d + 3) hB s3 (fun MF28 F28 => ?_))
        exact w_iret (fun _ => Or.inl rfl) (h29 _ _ rq_do.refl F28)
    · exfalso; omega
set_option maxHeartbeats 4000000 in
theorem rq_dR_n {G : mj_G} {M0 M : mj_M} {B : Nat → Int} {n lim m bt ns rs sx rd : Nat} {T : Nat → Nat × Nat × Int × List Int × Nat} {nm : Nat → List Int} {c0 : Int} {R : Nat → Int} {Q : mj_P} {d q : Nat} (hB : rq_A G M0 B n lim m bt ns rs T) (hS : rq_S M0 m (T q) M) (hqn : q ≤ n) (gsx : G sx = (51100, 537)) (grd : G rd = (53100, 135)) (r6 : M0.2.2 m 6 = some sx) (r8 : M0.2.2 m 8 = some rd) (c1_ : 0 ≤ c0) (c2_ : c0 ≤ 8) (hc0 : M0.1 sx 0 = c0) (hN : ∀ k : Nat, (k : Int) < c0 → M0.2.1 ns k = rv_8 (nm k) ∧ rv_wo (nm k)) (hRd : ∀ k, k < 36 → M0.1 rd k = R k) (hdb : rv_db c0 R) (hnw : ∀ i, i = 10 ∨ i = 11 → ¬ ((T q).1 = 1 ∧ rv_rs.getD i [] = (T q).2.2.2.1)) (h : ∀ M0' M', rq_do rd M0 M0' → rq_F M0' m 1 (T q).2.1 M' → Q (some (.inl 0)) G M') : mj_R mj_tab (d + 5) 180 [.inr (.inr (some m))] G M Q := by
  obtain ⟨⟨gm, gbt, gns, grs, r1, r9, r10, rb, rr, n1, n2, m3, m5⟩, hT⟩ := id hB
  refine ⟨Nat.le_of_ble_eq_true rfl, ?_⟩
  show wz (d + 4) mt_X12_dealRow.2.2.2.2.1 Q mt_X12_dealRow.2.2.2.2.1 [some (.inr (.inr (some m))), none, none, none, none] [] G M _ _
  refine w_aln rfl ?_
  refine w_l2 ?_
  refine w_cv (st := []) rfl gm rfl (Nat.le_of_ble_eq_true rfl) (fun kk h => h) (rq_isWord0 (d := d + 3) (i := 10) hB hS hqn (by decide) (by decide +kernel) (hnw 10 (Or.inl rfl)) ?_)
  refine w_isn ?_
  show wz _ _ _ _ [some (.inr (.inr (some m))), some (.inl 0), none, none, none] _ _ _ _ _
  refine w_iln rfl ?_
  refine w_ifne (fun c1 => ?_) (fun c1 => ?_)
  · exfalso; omega
  · skip
    refine w_aln rfl ?_
    refine w_l2 ?_
    refine w_cv (st := []) rfl gm rfl (Nat.le_of_ble_eq_true rfl) (fun kk h => h) (rq_isWord0 (d := d + 3) (i := 11) hB hS hqn (by decide) (by decide +kernel) (hnw 11 (Or.inr rfl)) ?_)
    refine w_ifne (fun c2 => ?_) (fun c2 => ?_)
    · exfalso; omega
    · skip
      refine w_aln rfl ?_
      refine w_ic ?_
      refine w_cv (st := []) rfl gm rfl (Nat.le_of_ble_eq_true rfl) (fun kk h => h) (rq_bad (d := d + 3) hB hS (fun MF3 F3 => ?_))
      exact w_iret (fun _ => Or.inl rfl) (h _ _ rq_do.refl F3)
theorem rq_dealRow {G : mj_G} {M0 M : mj_M} {B : Nat → Int} {n lim m bt ns rs sx rd : Nat} {T : Nat → Nat × Nat × Int × List Int × Nat} {nm : Nat → List Int} {c0 : Int} {R : Nat → Int} {Q : mj_P} {d q : Nat} (hB : rq_A G M0 B n lim m bt ns rs T) (hS : rq_S M0 m (T q) M) (hqn : q ≤ n) (gsx : G sx = (51100, 537)) (grd : G rd = (53100, 135)) (r6 : M0.2.2 m 6 = some sx) (r8 : M0.2.2 m 8 = some rd) (c1_ : 0 ≤ c0) (c2_ : c0 ≤ 8) (hc0 : M0.1 sx 0 = c0) (hN : ∀ k : Nat, (k : Int) < c0 → M0.2.1 ns k = rv_8 (nm k) ∧ rv_wo (nm k)) (hRd : ∀ k, k < 36 → M0.1 rd k = R k) (hdb : rv_db c0 R) (h : sp_deal T nm c0 R q (fun f a => ∀ M0' M', rq_do rd M0 M0' → rq_F M0' m f a M' → Q (some (.inl 0)) G M') (fun R' q' => q ≤ q' → q' ≤ n → rv_db c0 R' → rv_cn R' 12 = rv_cn R 12 + 1 → ∀ M0' M', rq_do rd M0 M0' → rq_S M0' m (T (rv_x T q')) M' → (∀ k, k < 36 → M0'.1 rd k = R' k) → Q (some (.inl 1)) G M')) : mj_R mj_tab (d + 5) 180 [.inr (.inr (some m))] G M Q := by
  by_cases c1 : (T q).1 = 1
  · by_cases c2 : rv_nam (T q).2.2.2.1
    · exact rq_dR_n hB hS hqn gsx grd r6 r8 c1_ c2_ hc0 hN hRd hdb (fun i hi g => c2 i (by omega) g.2) (h.2 (fun g => g.2 c2))
    · have : ∃ j, j < 24 ∧ rv_rs.getD j [] = (T q).2.2.2.1 := by
        refine Classical.byContradiction (fun g => c2 (fun j hj e => g ⟨j, hj, e⟩))
      obtain ⟨j, j1, hj⟩ := this
      obtain ⟨h0, h1, h2⟩ := h.1 j j1 c1 hj
      by_cases e10 : j = 10
      · subst e10; exact rq_dR_10 hB hS hqn gsx grd r6 r8 c1_ c2_ hc0 hN hRd hdb c1 hj (h0 rfl)
      · by_cases e11 : j = 11
        · subst e11; exact rq_dR_11 hB hS hqn gsx grd r6 r8 c1_ c2_ hc0 hN hRd hdb c1 hj (h1 rfl)
        · exact rq_dR_n hB hS hqn gsx grd r6 r8 c1_ c2_ hc0 hN hRd hdb (fun i hi g => by have := rv_rs_i i (by omega) j j1 (g.2.trans hj.symm); omega) (h2 e10 e11)
  · exact rq_dR_n hB hS hqn gsx grd r6 r8 c1_ c2_ hc0 hN hRd hdb (fun i hi g => c1 g.1) (h.2 (fun g => c1 g.1))
end
section
/-! ===== the reference's contracts ===== -/
theorem rq_zrd {G : mj_G} {M0 : mj_M} {m rd : Nat} {d : Nat} {Q : mj_P} (gm : G m = (1012, 0)) (gc : G rd = (53100, 135)) (e0 : M0.2.2 m 8 = some rd) : ∀ (f k : Nat) (M : mj_M) (cb sb : Nat), k + f = 36 → rq_do rd M0 M → (∀ j, j < k → M.1 rd j = 0) → (∀ M', rq_do rd M0 M' → (∀ j, j < 36 → M'.1 rd j = 0) → wz d mt_X12_contracts.2.2.2.2.1 Q (mt_X12_contracts.2.2.2.2.1.drop 21) [some (.inr (.inr (some m))), some (.inl 36), none] [] G M' cb sb) → wz d mt_X12_contracts.2.2.2.2.1 Q (mt_X12_contracts.2.2.2.2.1.drop 11) [some (.inr (.inr (some m))), some (.inl (k : Int)), none] [] G M cb sb := by
  intro f
  induction f with
  | zero =>
    intro k M cb sb hk ho hz kk
    have e : k = 36 := by omega
    subst e
    refine w_iln rfl ?_
    refine w_bp ?_
    refine w_cmge (fun c => ?_) (fun c => by exfalso; omega)
    exact kk M ho hz
  | succ f ih =>
    intro k M cb sb hk ho hz kk
    refine w_iln rfl ?_
    refine w_bp ?_
    refine w_cmge (fun c => by exfalso; omega) (fun c => ?_)
    refine w_aln rfl ?_
    refine w_gr gm rfl (by decide) rfl (by rw [ho.2]; exact e0) ?_
    refine w_iln rfl ?_
    refine w_ic ?_
    refine w_iast gc rfl (by decide) (by omega) (by show (k : Int) < ((135 : Nat) : Int); omega) ?_
    refine w_ii rfl ⟨by omega, by omega⟩ ?_
    refine w_goto ?_
    refine ih (k + 1) _ _ _ (by omega) ho.put (fun j hj => ?_) kk
    rw [show ((k : Int)).toNat = k by omega]
    rcases Nat.lt_or_ge j k with q | q
    · exact (hn_n (Or.inr (by omega))).trans (hz j q)
    · rw [show j = k by omega]; exact hn_s
theorem rq_cpd {G : mj_G} {M0 : mj_M} {m rd sx : Nat} {d : Nat} {r : Int} {Q : mj_P} (gm : G m = (1012, 0)) (gc : G rd = (53100, 135)) (gs : G sx = (51100, 537)) (e6 : M0.2.2 m 6 = some sx) (e8 : M0.2.2 m 8 = some rd) : ∀ (f k : Nat) (M : mj_M) (cb sb : Nat), k + f = 36 → M.2 = M0.2 → (∀ a, a ≠ sx → M.1 a = M0.1 a) → (∀ j, j < k → M.1 sx (184 + j) = M0.1 rd j) → (∀ j, j < 184 ∨ 220 ≤ j → M.1 sx j = M0.1 sx j) → (∀ M', M'.2 = M0.2 → (∀ a, a ≠ sx → M'.1 a = M0.1 a) → (∀ j, j < 36 → M'.1 sx (184 + j) = M0.1 rd j) → (∀ j, j < 184 ∨ 220 ≤ j → M'.1 sx j = M0.1 sx j) → wz d mt_X12_contracts.2.2.2.2.1 Q (mt_X12_contracts.2.2.2.2.1.drop 59) [some (.inr (.inr (some m))), some (.inl r), some (.inl 36)] [] G M' cb sb) → wz d mt_X12_contracts.2.2.2.2.1 Q (mt_X12_contracts.2.2.2.2.1.drop 44) [some (.inr (.inr (some m))), some (.inl r), some (.inl (k : Int))] [] G M cb sb := by
  have ns : rd ≠ sx := hn_ne gc gs (by decide)
  intro f
  induction f with
  | zero =>
    intro k M cb sb hk h2 h1 h3 h4 kk
    have e : k = 36 := by omega
    subst e
    refine w_iln rfl ?_
    refine w_bp ?_
    refine w_cmge (fun c => ?_) (fun c => by exfalso; omega)
    exact kk M h2 h1 h3 h4
  | succ f ih =>
    intro k M cb sb hk h2 h1 h3 h4 kk
    refine w_iln rfl ?_
    refine w_bp ?_
    refine w_cmge (fun c => by exfalso; omega) (fun c => ?_)
    refine w_aln rfl ?_
    refine w_gr gm rfl (by decide) rfl (by rw [h2]; exact e6) ?_
    refine w_sp ?_
    refine w_iln rfl ?_
    refine w_add ⟨by omega, by omega⟩ ?_
    refine w_aln rfl ?_
    refine w_gr gm rfl (by decide) rfl (by rw [h2]; exact e8) ?_
    refine w_iln rfl ?_
    have tk : ((k : Int)).toNat = k := by omega
    refine w_iald (v := M0.1 rd k) gc rfl (by omega) (by show (k : Int) < ((135 : Nat) : Int); omega) (by rw [tk, h1 rd ns]) ?_
    refine w_iast gs rfl (by decide) (by omega) (by show (184 : Int) + (k : Int) < ((537 : Nat) : Int); omega) ?_
    refine w_ii rfl ⟨by omega, by omega⟩ ?_
    refine w_goto ?_
    rw [show ((184 : Int) + (k : Int)).toNat = 184 + k by omega]
    refine ih (k + 1) _ _ _ (by omega) h2 (fun a a1 => (wz_c a1).trans (h1 a a1)) (fun j hj => ?_) (fun j hj => (hn_n (Or.inr (by omega))).trans (h4 j hj)) kk
    rcases Nat.lt_or_ge j k with q | q
    · exact (hn_n (Or.inr (by omega))).trans (h3 j q)
    · rw [show j = k by omega]; exact hn_s
theorem rq_deals {G : mj_G} {Mb : mj_M} {B : Nat → Int} {n lim m bt ns rs sx rd : Nat} {T : Nat → Nat × Nat × Int × List Int × Nat} {nm : Nat → List Int} {c0 : Int} {v2 : Option mj_V} {Q : mj_P} {d : Nat} (hB : rq_A G Mb B n lim m bt ns rs T) (gsx : G sx = (51100, 537)) (grd : G rd = (53100, 135)) (r6 : Mb.2.2 m 6 = some sx) (r8 : Mb.2.2 m 8 = some rd) (c1_ : 0 ≤ c0) (c2_ : c0 ≤ 8) (hc0 : Mb.1 sx 0 = c0) (hN : ∀ k : Nat, (k : Int) < c0 → Mb.2.1 ns k = rv_8 (nm k) ∧ rv_wo (nm k)) : ∀ (f q r : Nat) (R : Nat → Int) (M0 M : mj_M) (cb sb : Nat), n < q + f → q ≤ n → r ≤ q → rq_do rd Mb M0 → rq_S M0 m (T q) M → (∀ k, k < 36 → M0.1 rd k = R k) → rv_db c0 R → rv_cn R 12 = r → sp_deals T nm c0 (fun f a => ∀ M0' M', rq_do rd Mb M0' → rq_F M0' m f a M' → Q (some (.inl (rv_vf a))) G M') (fun R r => rv_db c0 R → ∀ M0' M' q cb sb, rq_do rd Mb M0' → rq_S M0' m (T q) M' → (∀ k, k < 36 → M0'.1 rd k = R k) → wz (d + 5) mt_X12_contracts.2.2.2.2.1 Q (mt_X12_contracts.2.2.2.2.1.drop 42) [some (.inr (.inr (some m))), some (.inl (r : Int)), v2] [] G M' cb sb) f R r q → wz (d + 5) mt_X12_contracts.2.2.2.2.1 Q (mt_X12_contracts.2.2.2.2.1.drop 25) [some (.inr (.inr (some m))), some (.inl (r : Int)), v2] [] G M cb sb := by
  obtain ⟨gm, gbt, gns, grs, -⟩ := id hB.1
  intro f
  induction f with
  | zero => intro q r R M0 M cb sb g1 g2 g3; exfalso; omega
  | succ f ih =>
    intro q r R M0 M cb sb g1 g2 g3 ho hS hRd hdb hcn h
    have hB0 := hB.do grd ho
    have r6' : M0.2.2 m 6 = some sx := by rw [ho.2]; exact r6
    have r8' : M0.2.2 m 8 = some rd := by rw [ho.2]; exact r8
    have hc0' : M0.1 sx 0 = c0 := by rw [ho.1 sx (hn_ne gsx grd (by decide))]; exact hc0
    have hN' : ∀ k : Nat, (k : Int) < c0 → M0.2.1 ns k = rv_8 (nm k) ∧ rv_wo (nm k) := fun k hk => by rw [ho.2]; exact hN k hk
    have hk := rv_tkc_f (rq_y_w hB0 g2).1
    have hw := rq_y_w hB0 g2
    obtain ⟨h0, h5, hr⟩ := h
    have k12 := rv_cn_le R 12
    have bad : ∀ (a : Nat) (M' : mj_M) (cb sb : Nat), M'.1 m 16 = (a : Int) → Q (some (.inl (rv_vf a))) G M' → wz (d + 5) mt_X12_contracts.2.2.2.2.1 Q (mt_X12_contracts.2.2.2.2.1.drop 35) [some (.inr (.inr (some m))), some (.inl (r : Int)), v2] [] G M' cb sb := by
      intro a M' cb sb e hQ
      refine w_ic ?_
      refine w_aln rfl ?_
      refine w_gi gm rfl (by decide) rfl e ?_
      refine w_subw ?_
      intro z hz ez
      have ev : z = rv_vf a := ez
      rw [ev]
      exact w_iret (fun q => by cases q) hQ
    refine w_aln rfl ?_
    refine w_gi gm rfl (by decide) rfl hS.1.1 ?_
    refine w_ifeq (fun c => ?_) (fun c => ?_)
    · exact h0 (by omega) hdb M0 M q _ _ ho hS hRd
    · refine w_aln rfl ?_
      by_cases c5 : (T q).1 = 5
      · refine w_cv (st := []) rfl gm rfl (Nat.le_of_ble_eq_true rfl) (fun kk h => h) (rq_dR_n (d := d) hB0 hS g2 gsx grd r6' r8' c1_ c2_ hc0' hN' hRd hdb (fun i _ g => by omega) (fun M0' M' o F => ?_))
        refine w_ifeq (fun _ => ?_) (fun c => absurd rfl c)
        exact bad _ _ _ _ F.2.1 (h5 c5 M0' M' (ho.trans o) F)
      · have hlt := hw.2.2.2.1 (by omega) c5
        refine w_cv (st := []) rfl gm rfl (Nat.le_of_ble_eq_true rfl) (fun kk h => h) (rq_dealRow (d := d) hB0 hS g2 gsx grd r6' r8' c1_ c2_ hc0' hN' hRd hdb ((hr (by omega) c5).mono (fun f a hf M0' M' o F => ?_) (fun R1 q1 hk1 g4 g5 hdb1 hc1 M0' M' o S1 h36 => ?_)))
        · refine w_ifeq (fun _ => ?_) (fun c => absurd rfl c)
          exact bad _ _ _ _ F.2.1 (hf M0' M' (ho.trans o) F)
        · refine w_ifeq (fun c => absurd c (by decide)) (fun _ => ?_)
          refine w_aln rfl ?_
          refine w_bp ?_
          have B1 := hB0.do grd o
          have g6 := rq_y_le B1 g5
          refine w_cv (st := []) rfl gm rfl (Nat.le_of_ble_eq_true rfl) (fun kk h => h) (rq_sign (d := d + 2) B1 S1 g6 (hk1.mono (fun f a hf => ?_) (fun e3 hk2 => ?_)))
          · intro M2 F2
            refine w_ifne (fun c => absurd rfl c) (fun _ => ?_)
            exact bad _ _ _ _ F2.2.1 (hf M0' M2 (ho.trans o) F2)
          · intro M2 S2
            refine w_ifne (fun _ => ?_) (fun c => absurd c (by decide))
            refine w_ii rfl ⟨by omega, by omega⟩ ?_
            refine w_goto ?_
            have g7 := rq_y_ge B1 g5
            have g8 := (rq_y_w B1 g6).2.2.2.1 (by omega) (by omega)
            have g9 := rq_y_le B1 g6
            exact ih (rv_x T (rv_x T q1)) (r + 1) R1 M0' M2 _ _ (by unfold rv_x at *; omega) g9 (by unfold rv_x at *; omega) (ho.trans o) S2 h36 hdb1 (by omega) hk2
/-- the state behind contracts() of the reference -/
def rq_O (sx : Nat) (R : Nat → Int) (r : Nat) (M M' : mj_M) : Prop := (∀ k, k < 36 → M'.1 sx (184 + k) = R k) ∧ M'.1 sx 220 = (r : Int) ∧ (∀ j, j < 184 ∨ 220 < j → M'.1 sx j = M.1 sx j)
theorem r_X12_contracts2 {G : mj_G} {M : mj_M} {B : Nat → Int} {n m bt ns rs sx rd : Nat} {T : Nat → Nat × Nat × Int × List Int × Nat} {nm : Nat → List Int} {c0 : Int} {Q : mj_P} {d : Nat} (gm : G m = (1012, 0)) (gbt : G bt = (50101, 940)) (gns : G ns = (54103, 16)) (grs : G rs = (55103, 24)) (r1 : M.2.2 m 1 = some bt) (r9 : M.2.2 m 9 = some ns) (r10 : M.2.2 m 10 = some rs) (rb : ∀ k, rv_u8 (M.1 bt k) = B k) (rr : ∀ k, k < 24 → M.2.1 rs k = rv_8 (rv_rs.getD k [])) (n1 : n ≤ 940) (hT : T = rv_T B n 400) (gsx : G sx = (51100, 537)) (grd : G rd = (53100, 135)) (r6 : M.2.2 m 6 = some sx) (r8 : M.2.2 m 8 = some rd) (hn : M.1 m 2 = (n : Int)) (c1_ : 0 ≤ c0) (c2_ : c0 ≤ 8) (hc0 : M.1 sx 0 = c0) (hN : ∀ k : Nat, (k : Int) < c0 → M.2.1 ns k = rv_8 (nm k) ∧ rv_wo (nm k)) (h : sp_deals T nm c0 (fun f a => ∀ M', M'.1 sx = M.1 sx → Q (some (.inl (rv_vf a))) G M') (fun R r => rv_db c0 R → ∀ M', rq_O sx R r M M' → Q (some (.inl (r : Int))) G M') (n + 1) (fun _ => 0) 0 0) : mj_R mj_tab (d + 6) 177 [.inr (.inr (some m))] G M Q := by
  refine ⟨Nat.le_of_ble_eq_true rfl, ?_⟩
  show wz (d + 5) mt_X12_contracts.2.2.2.2.1 Q mt_X12_contracts.2.2.2.2.1 [some (.inr (.inr (some m))), none, none] [] G M _ _
  refine w_aln rfl ?_
  refine w_ic ?_
  refine w_pi gm rfl (by decide) rfl (fun q => by cases q) ?_
  refine w_aln rfl ?_
  refine w_sp ?_
  refine w_cv (st := []) rfl gm rfl (Nat.le_of_ble_eq_true rfl) (fun kk h => h) ⟨Nat.le_of_ble_eq_true rfl, ?_⟩
  show wz (d + 4) mt_X12_taken.2.2.2.2.1 _ mt_X12_taken.2.2.2.2.1 [some (.inr (.inr (some m))), some (.inl 400)] [] _ _ _ _
  refine w_aln rfl ?_
  refine w_aln rfl ?_
  refine w_gi gm rfl (by decide) rfl (v := (n : Int)) ((hn_n (Or.inr (by decide))).trans hn) ?_
  refine w_pi gm rfl (by decide) rfl (fun q => by cases q) ?_
  refine w_aln rfl ?_
  refine w_ic ?_
  refine w_pi gm rfl (by decide) rfl (fun q => by cases q) ?_
  refine w_aln rfl ?_
  refine w_ic ?_
  refine w_pi gm rfl (by decide) rfl (fun q => by cases q) ?_
  refine w_aln rfl ?_
  refine w_iln rfl ?_
  refine w_pi gm rfl (by decide) rfl (fun q => by cases q) ?_
  refine w_ret ?_
  refine w_aln rfl ?_
  refine w_ic ?_
  refine w_pi gm rfl (by decide) rfl (fun q => by cases q) ?_
  have eo : ∀ a, a ≠ m → (mj_p0 (mj_p0 (mj_p0 (mj_p0 (mj_p0 (mj_p0 M m 0 0) m 3 (n : Int)) m 2 0) m 4 0) m 5 400) m 15 0).1 a = M.1 a := fun a ha => (wz_c ha).trans ((wz_c ha).trans ((wz_c ha).trans ((wz_c ha).trans ((wz_c ha).trans (wz_c ha)))))
  refine w_ic ?_
  refine w_isn ?_
  refine rq_zrd (M0 := (mj_p0 (mj_p0 (mj_p0 (mj_p0 (mj_p0 (mj_p0 M m 0 0) m 3 (n : Int)) m 2 0) m 4 0) m 5 400) m 15 0)) gm grd r8 36 0 _ _ _ (by omega) rq_do.refl (fun j hj => absurd hj (Nat.not_lt_zero j)) (fun M1 o1 z1 => ?_)
  have hB : rq_A G M1 B n 400 m bt ns rs T := by
    refine ⟨⟨gm, gbt, gns, grs, by rw [o1.2]; exact r1, by rw [o1.2]; exact r9, by rw [o1.2]; exact r10, fun k => by rw [o1.1 bt (hn_ne gbt grd (by decide)), eo bt (hn_ne gbt gm (by decide))]; exact rb k, fun k hk => by rw [o1.2]; exact rr k hk, n1, by decide, ?_, ?_⟩, hT⟩
    · rw [o1.1 m (hn_ne gm grd (by decide))]; exact (hn_n (Or.inr (by decide))).trans ((hn_n (Or.inr (by decide))).trans ((hn_n (Or.inr (by decide))).trans ((hn_n (Or.inr (by decide))).trans hn_s)))
    · rw [o1.1 m (hn_ne gm grd (by decide))]; exact (hn_n (Or.inr (by decide))).trans hn_s
  have es : M1.1 sx = M.1 sx := (o1.1 sx (hn_ne gsx grd (by decide))).trans (eo sx (hn_ne gsx gm (by decide)))
  have e4 : M1.1 m 4 = ((0 : Nat) : Int) := by rw [o1.1 m (hn_ne gm grd (by decide))]; exact (hn_n (Or.inr (by decide))).trans ((hn_n (Or.inr (by decide))).trans hn_s)
  have r61 : M1.2.2 m 6 = some sx := by rw [o1.2]; exact r6
  have r81 : M1.2.2 m 8 = some rd := by rw [o1.2]; exact r8
  have hN1 : ∀ k : Nat, (k : Int) < c0 → M1.2.1 ns k = rv_8 (nm k) ∧ rv_wo (nm k) := fun k hk => by rw [o1.2]; exact hN k hk
  refine w_ic ?_
  refine w_isn ?_
  show wz _ _ _ _ [some (.inr (.inr (some m))), some (.inl 0), none] _ _ _ _ _
  refine w_aln rfl ?_
  refine w_cv (st := []) rfl gm rfl (Nat.le_of_ble_eq_true rfl) (fun kk h => h) (rq_nxt0 (d := d + 3) (q := 0) hB e4 ⟨fun _ _ => rfl, fun _ _ => rfl, rfl, fun _ _ => rfl⟩ (Nat.zero_le n) (fun M2 s2 _ => ?_))
  refine rq_deals (d := d) hB gsx grd r61 r81 c1_ c2_ (by rw [es]; exact hc0) hN1 (n + 1) 0 0 (fun _ => 0) M1 M2 _ _ (by omega) (Nat.zero_le n) (Nat.le_refl 0) rq_do.refl s2 z1 (fun j _ => Or.inl ⟨rfl, rfl, rfl⟩) rfl (sp_deals.mono (fun f a hf M0' M' o F => ?_) (fun R r hk hdb M0' M' q cb sb o S h36 => ?_) _ _ _ _ h)
  · exact hf M' ((F.2.2.1 sx (hn_ne gsx gm (by decide))).trans ((o.1 sx (hn_ne gsx grd (by decide))).trans es))
  · have esx : M'.1 sx = M.1 sx := (S.2.1 sx (hn_ne gsx gm (by decide))).trans ((o.1 sx (hn_ne gsx grd (by decide))).trans es)
    have erd : M'.1 rd = M0'.1 rd := S.2.1 rd (hn_ne grd gm (by decide))
    have r62 : M'.2.2 m 6 = some sx := by rw [S.2.2.2.1, o.2]; exact r61
    have r82 : M'.2.2 m 8 = some rd := by rw [S.2.2.2.1, o.2]; exact r81
    refine w_ic ?_
    refine w_isn ?_
    show wz _ _ _ _ [some (.inr (.inr (some m))), some (.inl (r : Int)), some (.inl 0)] _ _ _ _ _
    refine rq_cpd (M0 := M') gm grd gsx r62 r82 36 0 M' _ _ (by omega) rfl (fun _ _ => rfl) (fun j hj => absurd hj (Nat.not_lt_zero j)) (fun _ _ => rfl) (fun M3 u2 u1 u3 u4 => ?_)
    refine w_aln rfl ?_
    refine w_gr gm rfl (by decide) rfl (by rw [u2]; exact r62) ?_
    refine w_sp ?_
    refine w_iln rfl ?_
    refine w_iast gsx rfl (by decide) (by omega) (by show (220 : Int) < ((537 : Nat) : Int); omega) ?_
    refine w_iln rfl ?_
    refine w_iret (fun q => by cases q) (hk hdb _ ⟨fun k hk => (hn_n (Or.inr (by show 184 + k ≠ 220; omega))).trans ((u3 k hk).trans ((congrFun erd k).trans (h36 k hk))), hn_s, fun j hj => (hn_n (Or.inr (by show j ≠ 220; omega))).trans ((u4 j (by omega)).trans (congrFun esx j))⟩)
end
section
/-! ===== every text of CONTRACTS has one answer ===== -/
def rv_Dg {β : Type} (S : (((Int × Nat) ⊕ β) → Prop) → Prop) : Prop := ∃ y, ∀ P : ((Int × Nat) ⊕ β) → Prop, P y → S P
section DG
variable {β : Type} {T : Nat → Nat × Nat × Int × List Int × Nat} {p : Nat} {A B : (((Int × Nat) ⊕ β) → Prop) → Prop}
theorem dg_f (f : Int) (a : Nat) : rv_Dg (β := β) (fun P => P (.inl (f, a))) := ⟨_, fun _ h => h⟩
theorem dg_if {c : Prop} (hA : rv_Dg A) (hB : rv_Dg B) : rv_Dg (fun P => (c → A P) ∧ (¬ c → B P)) := by
  by_cases h : c
  · obtain ⟨y, hy⟩ := hA
    exact ⟨y, fun P p => ⟨fun _ => hy P p, fun n => absurd h n⟩⟩
  · obtain ⟨y, hy⟩ := hB
    exact ⟨y, fun P p => ⟨fun n => absurd n h, fun _ => hy P p⟩⟩
theorem dg_num {lo hi : Int} (hA : rv_Dg A) : rv_Dg (fun P => sp_num T lo hi p (fun f a => P (.inl (f, a))) (A P)) := by
  obtain ⟨y, hy⟩ := hA
  by_cases c1 : (T p).1 = 2
  · by_cases c2 : lo ≤ (T p).2.2.1
    · by_cases c3 : (T p).2.2.1 ≤ hi
      · exact ⟨y, fun P k => ⟨fun _ => ⟨fun _ => ⟨fun _ => hy P k, fun n => absurd c3 n⟩, fun n => absurd c2 n⟩, fun n => absurd c1 n⟩⟩
      · exact ⟨.inl (2, (T p).2.1), fun P k => ⟨fun _ => ⟨fun _ => ⟨fun n => absurd n c3, fun _ => k⟩, fun n => absurd c2 n⟩, fun n => absurd c1 n⟩⟩
    · exact ⟨.inl (2, (T p).2.1), fun P k => ⟨fun _ => ⟨fun n => absurd n c2, fun _ => k⟩, fun n => absurd c1 n⟩⟩
  · exact ⟨.inl (1, (T p).2.1), fun P k => ⟨fun n => absurd n c1, fun _ => k⟩⟩
theorem dg_sgn {c : Int} (hA : rv_Dg A) : rv_Dg (fun P => sp_sgn T c p (fun f a => P (.inl (f, a))) (A P)) := by
  obtain ⟨y, hy⟩ := hA
  by_cases c1 : (T p).1 = 3
  · by_cases c2 : (T p).2.2.1 = c
    · exact ⟨y, fun P k => ⟨fun _ => ⟨fun _ => hy P k, fun n => absurd c2 n⟩, fun n => absurd c1 n⟩⟩
    · exact ⟨.inl (1, (T p).2.1), fun P k => ⟨fun _ => ⟨fun n => absurd n c2, fun _ => k⟩, fun n => absurd c1 n⟩⟩
  · exact ⟨.inl (1, (T p).2.1), fun P k => ⟨fun n => absurd n c1, fun _ => k⟩⟩
theorem dg_nam (hA : rv_Dg A) : rv_Dg (fun P => sp_nam T p (fun f a => P (.inl (f, a))) (A P)) := by
  obtain ⟨y, hy⟩ := hA
  by_cases c1 : (T p).1 = 1
  · by_cases c2 : rv_nam (T p).2.2.2.1
    · exact ⟨y, fun P k => ⟨fun _ => ⟨fun _ => hy P k, fun n => absurd c2 n⟩, fun n => absurd c1 n⟩⟩
    · exact ⟨.inl (1, (T p).2.1), fun P k => ⟨fun _ => ⟨fun n => absurd n c2, fun _ => k⟩, fun n => absurd c1 n⟩⟩
  · exact ⟨.inl (1, (T p).2.1), fun P k => ⟨fun n => absurd n c1, fun _ => k⟩⟩
theorem dg_find {nm : Nat → List Int} {k : Int} {w : List Int} {K : Int → (((Int × Nat) ⊕ β) → Prop) → Prop} (hK : ∀ r, rv_Dg (K r)) : rv_Dg (fun P => sp_find nm k w (fun r => K r P)) := by
  by_cases h : ∃ r : Nat, (r : Int) < k ∧ nm r = w ∧ ∀ j, j < r → nm j ≠ w
  · obtain ⟨r, h1, h2, h3⟩ := h
    obtain ⟨y, hy⟩ := hK (r : Int)
    refine ⟨y, fun P p => ⟨fun r' g1 g2 g3 => ?_, fun g => absurd h2 (g r h1)⟩⟩
    have e : r' = r := by
      rcases Nat.lt_trichotomy r' r with q | q | q
      · exact absurd g2 (h3 r' q)
      · exact q
      · exact absurd h2 (g3 r q)
    rw [e]; exact hy P p
  · obtain ⟨y, hy⟩ := hK (-1)
    exact ⟨y, fun P p => ⟨fun r' g1 g2 g3 => absurd ⟨r', g1, g2, g3⟩ h, fun _ => hy P p⟩⟩
end DG
theorem dg_dlet {β : Type} {T : Nat → Nat × Nat × Int × List Int × Nat} {nm : Nat → List Int} {c0 : Int} {R : Nat → Int} {q : Nat} {K : (Nat → Int) → Nat → (((Int × Nat) ⊕ β) → Prop) → Prop} (hK : ∀ R q, rv_Dg (K R q)) : rv_Dg (fun P => sp_dlet T nm c0 R q (fun f a => P (.inl (f, a))) (fun R' q' => K R' q' P)) := by
  unfold sp_dlet
  exact (dg_num (dg_if (dg_nam (dg_find (fun r => (dg_if (dg_f _ _) (dg_if (dg_nam (dg_find (fun r => (dg_if (dg_f _ _) (dg_if (dg_f _ _) (dg_num (hK _ _))))))) (dg_num (hK _ _))))))) (dg_f _ _)))
theorem dg_dsea {β : Type} {T : Nat → Nat × Nat × Int × List Int × Nat} {nm : Nat → List Int} {c0 : Int} {R : Nat → Int} {q : Nat} {K : (Nat → Int) → Nat → (((Int × Nat) ⊕ β) → Prop) → Prop} (hK : ∀ R q, rv_Dg (K R q)) : rv_Dg (fun P => sp_dsea T nm c0 R q (fun f a => P (.inl (f, a))) (fun R' q' => K R' q' P)) := by
  unfold sp_dsea
  exact (dg_num (dg_if (hK _ _) (dg_f _ _)))
theorem dg_deal {β : Type} {T : Nat → Nat × Nat × Int × List Int × Nat} {nm : Nat → List Int} {c0 : Int} {R : Nat → Int} {q : Nat} {K : (Nat → Int) → Nat → (((Int × Nat) ⊕ β) → Prop) → Prop} (hK : ∀ R q, rv_Dg (K R q)) : rv_Dg (fun P => sp_deal T nm c0 R q (fun f a => P (.inl (f, a))) (fun R' q' => K R' q' P)) := by
  by_cases c : (T q).1 = 1 ∧ ¬ rv_nam (T q).2.2.2.1
  · have : ∃ j, j < 24 ∧ rv_rs.getD j [] = (T q).2.2.2.1 := by
      refine Classical.byContradiction (fun g => c.2 (fun j hj e => g ⟨j, hj, e⟩))
    obtain ⟨j, j1, hj⟩ := this
    have key : rv_Dg (fun P => (j = 10 → sp_dlet T nm c0 R q (fun f a => P (.inl (f, a))) (fun R' q' => K R' q' P)) ∧ (j = 11 → sp_dsea T nm c0 R q (fun f a => P (.inl (f, a))) (fun R' q' => K R' q' P)) ∧ (j ≠ 10 → j ≠ 11 → P (.inl (1, (T q).2.1)))) := by
      by_cases e10 : j = 10
      · obtain ⟨y, hy⟩ := dg_dlet (T := T) (nm := nm) (c0 := c0) (R := R) (q := q) hK
        exact ⟨y, fun P p => ⟨fun _ => hy P p, fun e => absurd (e10.symm.trans e) (by decide), fun n => absurd e10 n⟩⟩
      · by_cases e11 : j = 11
        · obtain ⟨y, hy⟩ := dg_dsea (T := T) (nm := nm) (c0 := c0) (R := R) (q := q) hK
          exact ⟨y, fun P p => ⟨fun e => absurd e e10, fun _ => hy P p, fun _ n => absurd e11 n⟩⟩
        · exact ⟨.inl (1, (T q).2.1), fun P p => ⟨fun e => absurd e e10, fun e => absurd e e11, fun _ _ => p⟩⟩
    obtain ⟨y, hy⟩ := key
    refine ⟨y, fun P p => ⟨fun i i1 _ hi => ?_, fun n => absurd c n⟩⟩
    have e : i = j := rv_rs_i i i1 j j1 (hi.trans hj.symm)
    rw [e]; exact hy P p
  · exact ⟨.inl (1, (T q).2.1), fun P p => ⟨fun i i1 a b => absurd ⟨a, fun n => n i i1 b⟩ c, fun _ => p⟩⟩
theorem dg_deals {T : Nat → Nat × Nat × Int × List Int × Nat} {nm : Nat → List Int} {c0 : Int} : ∀ (f : Nat) (R : Nat → Int) (r q : Nat), rv_Dg (β := (Nat → Int) × Nat) (fun P => sp_deals T nm c0 (fun f a => P (.inl (f, a))) (fun R r => P (.inr (R, r))) f R r q)
  | 0, _, _, _ => ⟨.inl (0, 0), fun _ _ => trivial⟩
  | f + 1, R, r, q => by
    by_cases c0' : (T q).1 = 0
    · exact ⟨.inr (R, r), fun P p => ⟨fun _ => p, fun e => absurd (c0'.symm.trans e) (by decide), fun n => absurd c0' n⟩⟩
    · by_cases c5 : (T q).1 = 5
      · exact ⟨.inl (1, (T q).2.1), fun P p => ⟨fun e => absurd e c0', fun _ => p, fun _ n => absurd c5 n⟩⟩
      · obtain ⟨y, hy⟩ := dg_deal (T := T) (nm := nm) (c0 := c0) (R := R) (q := q) (K := fun R' q' P => sp_sgn T 59 (rv_x T q') (fun f a => P (.inl (f, a))) (sp_deals T nm c0 (fun f a => P (.inl (f, a))) (fun R r => P (.inr (R, r))) f R' (r + 1) (rv_x T (rv_x T q')))) (fun R' q' => dg_sgn (dg_deals f R' (r + 1) (rv_x T (rv_x T q'))))
        exact ⟨y, fun P p => ⟨fun e => absurd e c0', fun e => absurd e c5, fun _ _ => hy P p⟩⟩
end
