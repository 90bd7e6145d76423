/-! ===== the cheapest letting: the reference (laid by a program) ===== -/
def cp_GR (G : mj_G) (w : Nat → Nat) : Prop := G (w 345) = (58100, 13) ∧ G (w 346) = (59100, 13) ∧ G (w 347) = (60100, 39) ∧ G (w 348) = (61100, 12)
def cp_BR (M : mj_M) (w : Nat → Nat) (m : Nat) : Prop := M.2.2 m 35 = some (w 345) ∧ M.2.2 m 36 = some (w 346) ∧ M.2.2 m 37 = some (w 347) ∧ M.2.2 m 38 = some (w 348)
abbrev cr_ne (w : Nat → Nat) (a : Nat) : Prop := a ≠ w 345 ∧ a ≠ w 346 ∧ a ≠ w 347 ∧ a ≠ w 348
def cr_C (w : Nat → Nat) (M0 : mj_M) (TR CO HA PL : Nat → Int) (M : mj_M) : Prop := M.2 = M0.2 ∧ (∀ a, cr_ne w a → M.1 a = M0.1 a) ∧ (∀ k, k < 13 → M.1 (w 345) k = TR k) ∧ (∀ k, k < 13 → M.1 (w 346) k = CO k) ∧ (∀ k, k < 39 → M.1 (w 347) k = HA k) ∧ (∀ k, k < 12 → M.1 (w 348) k = PL k)
section CR
variable {G : mj_G} {w : Nat → Nat} {M0 M : mj_M} {TR CO HA PL : Nat → Int} {j a k b s m : Nat} {v z : Int}
theorem cr_C.re : cr_C w M (M.1 (w 345)) (M.1 (w 346)) (M.1 (w 347)) (M.1 (w 348)) M := ⟨rfl, fun _ _ => rfl, fun _ _ => rfl, fun _ _ => rfl, fun _ _ => rfl, fun _ _ => rfl⟩
theorem cr_C.r (h : cr_C w M0 TR CO HA PL M) (e : M0.2.2 a k = some b) : M.2.2 a k = some b := by rw [h.1]; exact e
theorem cr_C.sj (h : cr_C w M0 TR CO HA PL M) (gr : cp_GR G w) (gs : G s = (51100, 537)) : M.1 s j = M0.1 s j := by
  rw [h.2.1 s ⟨hn_ne gs gr.1 (by decide), hn_ne gs gr.2.1 (by decide), hn_ne gs gr.2.2.1 (by decide), hn_ne gs gr.2.2.2 (by decide)⟩]
theorem cr_C.mj (h : cr_C w M0 TR CO HA PL M) (gr : cp_GR G w) (gm : G m = (1012, 0)) : M.1 m j = M0.1 m j := by
  rw [h.2.1 m ⟨hn_ne gm gr.1 (by decide), hn_ne gm gr.2.1 (by decide), hn_ne gm gr.2.2.1 (by decide), hn_ne gm gr.2.2.2 (by decide)⟩]
theorem cr_C.h5 (h : cr_C w M0 TR CO HA PL M) (gr : cp_GR G w) : cr_C w M0 (rv_up TR j v) CO HA PL (mj_p0 M (w 345) j v) :=
  ⟨h.1, fun a n => (wz_c n.1).trans (h.2.1 a n), cp_up h.2.2.1, fun k hk => (hn_n (Or.inl (hn_ne gr.2.1 gr.1 (by decide)))).trans (h.2.2.2.1 k hk), fun k hk => (hn_n (Or.inl (hn_ne gr.2.2.1 gr.1 (by decide)))).trans (h.2.2.2.2.1 k hk), fun k hk => (hn_n (Or.inl (hn_ne gr.2.2.2 gr.1 (by decide)))).trans (h.2.2.2.2.2 k hk)⟩
theorem cr_C.h6 (h : cr_C w M0 TR CO HA PL M) (gr : cp_GR G w) : cr_C w M0 TR (rv_up CO j v) HA PL (mj_p0 M (w 346) j v) :=
  ⟨h.1, fun a n => (wz_c n.2.1).trans (h.2.1 a n), fun k hk => (hn_n (Or.inl (hn_ne gr.1 gr.2.1 (by decide)))).trans (h.2.2.1 k hk), cp_up h.2.2.2.1, fun k hk => (hn_n (Or.inl (hn_ne gr.2.2.1 gr.2.1 (by decide)))).trans (h.2.2.2.2.1 k hk), fun k hk => (hn_n (Or.inl (hn_ne gr.2.2.2 gr.2.1 (by decide)))).trans (h.2.2.2.2.2 k hk)⟩
theorem cr_C.h7 (h : cr_C w M0 TR CO HA PL M) (gr : cp_GR G w) : cr_C w M0 TR CO (rv_up HA j v) PL (mj_p0 M (w 347) j v) :=
  ⟨h.1, fun a n => (wz_c n.2.2.1).trans (h.2.1 a n), fun k hk => (hn_n (Or.inl (hn_ne gr.1 gr.2.2.1 (by decide)))).trans (h.2.2.1 k hk), fun k hk => (hn_n (Or.inl (hn_ne gr.2.1 gr.2.2.1 (by decide)))).trans (h.2.2.2.1 k hk), cp_up h.2.2.2.2.1, fun k hk => (hn_n (Or.inl (hn_ne gr.2.2.2 gr.2.2.1 (by decide)))).trans (h.2.2.2.2.2 k hk)⟩
theorem cr_C.h8 (h : cr_C w M0 TR CO HA PL M) (gr : cp_GR G w) : cr_C w M0 TR CO HA (rv_up PL j v) (mj_p0 M (w 348) j v) :=
  ⟨h.1, fun a n => (wz_c n.2.2.2).trans (h.2.1 a n), fun k hk => (hn_n (Or.inl (hn_ne gr.1 gr.2.2.2 (by decide)))).trans (h.2.2.1 k hk), fun k hk => (hn_n (Or.inl (hn_ne gr.2.1 gr.2.2.2 (by decide)))).trans (h.2.2.2.1 k hk), fun k hk => (hn_n (Or.inl (hn_ne gr.2.2.1 gr.2.2.2 (by decide)))).trans (h.2.2.2.2.1 k hk), cp_up h.2.2.2.2.2⟩
end CR
/-- whether what months can bring is enough, town by town -/
def cs_cb (H HA : Nat → Int) (m : Nat) : Nat → Nat → Int
  | 0, _ => 1
  | n + 1, k => if HA (3 * m + k) + cs_all H k (12 - m) m < H (8 + 9 * k) then 0 else cs_cb H HA m n (k + 1)
theorem cs_cb_s {H HA : Nat → Int} {m : Nat} : ∀ n k, (cs_cb H HA m n k = 1 ∧ ∀ q, k ≤ q → q < k + n → H (8 + 9 * q) ≤ HA (3 * m + q) + cs_all H q (12 - m) m) ∨ (cs_cb H HA m n k = 0 ∧ ∃ q, k ≤ q ∧ q < k + n ∧ HA (3 * m + q) + cs_all H q (12 - m) m < H (8 + 9 * q))
  | 0, k => Or.inl ⟨rfl, fun q h1 h2 => absurd h2 (by omega)⟩
  | n + 1, k => by
    by_cases c : HA (3 * m + k) + cs_all H k (12 - m) m < H (8 + 9 * k)
    · exact Or.inr ⟨if_pos c, k, Nat.le_refl _, by omega, c⟩
    · have e : cs_cb H HA m (n + 1) k = cs_cb H HA m n (k + 1) := if_neg c
      rw [e]
      rcases cs_cb_s (H := H) (HA := HA) (m := m) n (k + 1) with ⟨e1, h1⟩ | ⟨e1, q, h1, h2, h3⟩
      · refine Or.inl ⟨e1, fun q a b => ?_⟩
        by_cases e2 : q = k
        · subst e2; omega
        · exact h1 q (by omega) (by omega)
      · exact Or.inr ⟨e1, q, by omega, by omega, h3⟩
theorem r_ci {G : mj_G} {M0 : mj_M} {m s : Nat} {w : Nat → Nat} {Q : mj_P} {d : Nat} (gr : cp_GR G w) (br : cp_BR M0 w m) (gm : G m = (1012, 0)) (gs : G s = (51100, 537)) (m6 : M0.2.2 m 6 = some s) (hr : rv_r4 (M0.1 s) 0) (t1 : 1 ≤ M0.1 s 0) (t3 : M0.1 s 0 ≤ 3) {M : mj_M} {TR CO HA PL : Nat → Int} (hC : cr_C w M0 TR CO HA PL M) {k mi : Int} (k0 : 0 ≤ k) (k3 : k < 3) : ∀ (n : Nat) (i sum : Int) (cb sb : Nat), i + n = 12 → 0 ≤ i → 0 ≤ sum → sum ≤ 20000 + 999 * i → (∀ (z : Int) (cb sb : Nat), z = sum + cs_all (M0.1 s) k.toNat n i.toNat → wz (d + 2) mt_X12_canBe.2.2.2.2.1 Q (mt_X12_canBe.2.2.2.2.1.drop 31) [some (.inr (.inr (some m))), some (.inl mi), some (.inl k), some (.inl z), some (.inl 12)] [] G M cb sb) → wz (d + 2) mt_X12_canBe.2.2.2.2.1 Q (mt_X12_canBe.2.2.2.2.1.drop 19) [some (.inr (.inr (some m))), some (.inl mi), some (.inl k), some (.inl sum), some (.inl i)] [] G M cb sb := by
  have et := cs_te hr
  have b1 := cs_r1 hr
  have a := cs_rt hr (j := (9 * k + 4).toNat) (by omega) (by omega)
  intro n
  induction n with
  | zero =>
    intro i sum cb sb e i0 s0 s1 h
    obtain rfl : i = 12 := by omega
    refine w_il rfl ?_
    refine w_bp ?_
    refine w_cmge (fun c1 => ?_) (fun c1 => ?_)
    · skip
      exact h _ _ _ (by show sum = sum + 0; omega)
    · exfalso; omega
  | succ n ih =>
    intro i sum cb sb e i0 s0 s1 h
    have b := cs_rw hr (j := (i + 76).toNat) (by omega) (by omega)
    have e8 : cs_all (M0.1 s) k.toNat (n + 1) i.toNat = cs_gain (M0.1 s) k.toNat i.toNat + cs_all (M0.1 s) k.toNat n (i + 1).toNat := by
      show _ + cs_all _ _ n (i.toNat + 1) = _
      rw [show i.toNat + 1 = (i + 1).toNat by omega]
    refine w_il rfl ?_
    refine w_bp ?_
    refine w_cmge (fun c1 => ?_) (fun c1 => ?_)
    · exfalso; omega
    · skip
      refine w_iln rfl ?_
      refine w_aln rfl ?_
      refine w_iln rfl ?_
      refine w_il rfl ?_
      refine w_cv (st := [.inl sum]) rfl gm rfl (Nat.le_of_ble_eq_true rfl) (fun kk h => h) ⟨Nat.le_of_ble_eq_true rfl, ?_⟩
      show wz (d + 1) mt_X12_gains.2.2.2.2.1 _ mt_X12_gains.2.2.2.2.1 [some (.inr (.inr (some m))), some (.inl k), some (.inl i)] [] _ _ _ _
      refine w_aln rfl ?_
      refine w_gr gm rfl (by decide) rfl (hC.r (m6)) ?_
      refine w_bp ?_
      refine w_iln rfl ?_
      refine w_add ⟨by show (-2147483648 : Int) ≤ 76 + i; omega, by show 76 + i < (2147483648 : Int); omega⟩ ?_
      refine w_iald (v := (M0.1 s (i + 76).toNat)) gs rfl (by show (0 : Int) ≤ 76 + i; omega) (by show 76 + i < ((537 : Nat) : Int); omega) ((hC.sj gr gs).trans (congrArg (M0.1 s) (by show (76 + i).toNat = (i + 76).toNat; omega))) ?_
      refine w_aln rfl ?_
      refine w_iln rfl ?_
      refine w_ic ?_
      refine w_cv (st := [.inl (M0.1 s (i + 76).toNat)]) rfl gm rfl (Nat.le_of_ble_eq_true rfl) (fun kk h => h) ⟨Nat.le_of_ble_eq_true rfl, ?_⟩
      show wz (d) mt_X12_toldOf.2.2.2.2.1 _ mt_X12_toldOf.2.2.2.2.1 [some (.inr (.inr (some m))), some (.inl k), some (.inl 0)] [] _ _ _ _
      refine w_aln rfl ?_
      refine w_gr gm rfl (by decide) rfl (hC.r (m6)) ?_
      refine w_ic ?_
      refine w_bp ?_
      refine w_iln rfl ?_
      refine w_mul ⟨by show (-2147483648 : Int) ≤ 9 * k; omega, by show 9 * k < (2147483648 : Int); omega⟩ ?_
      refine w_add ⟨by show (-2147483648 : Int) ≤ 4 + (9 * k); omega, by show 4 + (9 * k) < (2147483648 : Int); omega⟩ ?_
      refine w_iln rfl ?_
      refine w_add ⟨by show (-2147483648 : Int) ≤ (4 + (9 * k)) + 0; omega, by show (4 + (9 * k)) + 0 < (2147483648 : Int); omega⟩ ?_
      refine w_iald (v := (M0.1 s (9 * k + 4).toNat)) gs rfl (by show (0 : Int) ≤ (4 + (9 * k)) + 0; omega) (by show (4 + (9 * k)) + 0 < ((537 : Nat) : Int); omega) ((hC.sj gr gs).trans (congrArg (M0.1 s) (by show ((4 + (9 * k)) + 0).toNat = (9 * k + 4).toNat; omega))) ?_
      refine w_iret (fun q => by cases q) ?_
      refine w_cmle (fun c2 => ?_) (fun c2 => ?_)
      · skip
        refine w_ic ?_
        refine w_iret (fun q => by cases q) ?_
        refine w_add ⟨by show (-2147483648 : Int) ≤ sum + 0; omega, by show sum + 0 < (2147483648 : Int); omega⟩ ?_
        refine w_isn ?_
        show wz _ _ _ _ [some (.inr (.inr (some m))), some (.inl mi), some (.inl k), some (.inl (sum + 0)), some (.inl i)] _ _ _ _ _
        refine w_ii rfl ⟨by show (-2147483648 : Int) ≤ i + 1; omega, by show i + 1 < (2147483648 : Int); omega⟩ ?_
        show wz _ _ _ _ [some (.inr (.inr (some m))), some (.inl mi), some (.inl k), some (.inl (sum + 0)), some (.inl (i + 1))] _ _ _ _ _
        refine w_goto ?_
        have eg : sum + cs_gain (M0.1 s) k.toNat i.toNat = sum + 0 := by
          rw [cs_gain_i k0 i0, if_neg (by omega)]
        rw [e8] at h
        exact ih (i + 1) _ _ _ (by omega) (by omega) (by omega) (by omega) (fun z cb sb ez => h z cb sb (by omega))
      · skip
        refine w_aln rfl ?_
        refine w_gr gm rfl (by decide) rfl (hC.r (m6)) ?_
        refine w_bp ?_
        refine w_iln rfl ?_
        refine w_add ⟨by show (-2147483648 : Int) ≤ 76 + i; omega, by show 76 + i < (2147483648 : Int); omega⟩ ?_
        refine w_iald (v := (M0.1 s (i + 76).toNat)) gs rfl (by show (0 : Int) ≤ 76 + i; omega) (by show 76 + i < ((537 : Nat) : Int); omega) ((hC.sj gr gs).trans (congrArg (M0.1 s) (by show (76 + i).toNat = (i + 76).toNat; omega))) ?_
        refine w_aln rfl ?_
        refine w_iln rfl ?_
        refine w_ic ?_
        refine w_cv (st := [.inl (M0.1 s (i + 76).toNat)]) rfl gm rfl (Nat.le_of_ble_eq_true rfl) (fun kk h => h) ⟨Nat.le_of_ble_eq_true rfl, ?_⟩
        show wz (d) mt_X12_toldOf.2.2.2.2.1 _ mt_X12_toldOf.2.2.2.2.1 [some (.inr (.inr (some m))), some (.inl k), some (.inl 0)] [] _ _ _ _
        refine w_aln rfl ?_
        refine w_gr gm rfl (by decide) rfl (hC.r (m6)) ?_
        refine w_ic ?_
        refine w_bp ?_
        refine w_iln rfl ?_
        refine w_mul ⟨by show (-2147483648 : Int) ≤ 9 * k; omega, by show 9 * k < (2147483648 : Int); omega⟩ ?_
        refine w_add ⟨by show (-2147483648 : Int) ≤ 4 + (9 * k); omega, by show 4 + (9 * k) < (2147483648 : Int); omega⟩ ?_
        refine w_iln rfl ?_
        refine w_add ⟨by show (-2147483648 : Int) ≤ (4 + (9 * k)) + 0; omega, by show (4 + (9 * k)) + 0 < (2147483648 : Int); omega⟩ ?_
        refine w_iald (v := (M0.1 s (9 * k + 4).toNat)) gs rfl (by show (0 : Int) ≤ (4 + (9 * k)) + 0; omega) (by show (4 + (9 * k)) + 0 < ((537 : Nat) : Int); omega) ((hC.sj gr gs).trans (congrArg (M0.1 s) (by show ((4 + (9 * k)) + 0).toNat = (9 * k + 4).toNat; omega))) ?_
        refine w_iret (fun q => by cases q) ?_
        refine w_sub ⟨by show (-2147483648 : Int) ≤ (M0.1 s (i + 76).toNat) - (M0.1 s (9 * k + 4).toNat); omega, by show (M0.1 s (i + 76).toNat) - (M0.1 s (9 * k + 4).toNat) < (2147483648 : Int); omega⟩ ?_
        refine w_goto ?_
        refine w_iret (fun q => by cases q) ?_
        refine w_add ⟨by show (-2147483648 : Int) ≤ sum + ((M0.1 s (i + 76).toNat) - (M0.1 s (9 * k + 4).toNat)); omega, by show sum + ((M0.1 s (i + 76).toNat) - (M0.1 s (9 * k + 4).toNat)) < (2147483648 : Int); omega⟩ ?_
        refine w_isn ?_
        show wz _ _ _ _ [some (.inr (.inr (some m))), some (.inl mi), some (.inl k), some (.inl (sum + ((M0.1 s (i + 76).toNat) - (M0.1 s (9 * k + 4).toNat)))), some (.inl i)] _ _ _ _ _
        refine w_ii rfl ⟨by show (-2147483648 : Int) ≤ i + 1; omega, by show i + 1 < (2147483648 : Int); omega⟩ ?_
        show wz _ _ _ _ [some (.inr (.inr (some m))), some (.inl mi), some (.inl k), some (.inl (sum + ((M0.1 s (i + 76).toNat) - (M0.1 s (9 * k + 4).toNat)))), some (.inl (i + 1))] _ _ _ _ _
        refine w_goto ?_
        have eg : sum + cs_gain (M0.1 s) k.toNat i.toNat = sum + ((M0.1 s (i + 76).toNat) - (M0.1 s (9 * k + 4).toNat)) := by
          rw [cs_gain_i k0 i0, if_pos (by omega)]
        rw [e8] at h
        exact ih (i + 1) _ _ _ (by omega) (by omega) (by omega) (by omega) (fun z cb sb ez => h z cb sb (by omega))
theorem r_co {G : mj_G} {M0 : mj_M} {m s : Nat} {w : Nat → Nat} {Q : mj_P} {d : Nat} (gr : cp_GR G w) (br : cp_BR M0 w m) (gm : G m = (1012, 0)) (gs : G s = (51100, 537)) (m6 : M0.2.2 m 6 = some s) (hr : rv_r4 (M0.1 s) 0) (t1 : 1 ≤ M0.1 s 0) (t3 : M0.1 s 0 ≤ 3) {M : mj_M} {TR CO HA PL : Nat → Int} (hC : cr_C w M0 TR CO HA PL M) {mi : Int} (m0 : 0 ≤ mi) (m12 : mi ≤ 12) (hb : ∀ q : Nat, (q : Int) < M0.1 s 0 → 0 ≤ HA (3 * mi.toNat + q) ∧ HA (3 * mi.toNat + q) ≤ 12000) : ∀ (n : Nat) (k : Int) (v3 v4 : Option mj_V) (cb sb : Nat), k + n = M0.1 s 0 → 0 ≤ k → Q (some (.inl (cs_cb (M0.1 s) HA mi.toNat n k.toNat))) G M → wz (d + 2) mt_X12_canBe.2.2.2.2.1 Q (mt_X12_canBe.2.2.2.2.1.drop 2) [some (.inr (.inr (some m))), some (.inl mi), some (.inl k), v3, v4] [] G M cb sb := by
  have et := cs_te hr
  have b1 := cs_r1 hr
  intro n
  induction n with
  | zero =>
    intro k v3 v4 cb sb e k0 h
    refine w_iln rfl ?_
    refine w_aln rfl ?_
    refine w_gr gm rfl (by decide) rfl (hC.r (m6)) ?_
    refine w_ic ?_
    refine w_iald (v := (M0.1 s 0)) gs rfl (by show (0 : Int) ≤ 0; omega) (by show 0 < ((537 : Nat) : Int); omega) ((hC.sj gr gs).trans (congrArg (M0.1 s) (by show (0 : Int).toNat = 0; omega))) ?_
    refine w_cmge (fun c1 => ?_) (fun c1 => ?_)
    · skip
      refine w_ic ?_
      exact w_iret (fun _ => Or.inr rfl) h
    · exfalso; omega
  | succ n ih =>
    intro k v3 v4 cb sb e k0 h
    have hbk := hb k.toNat (by omega)
    have eh : HA (3 * mi.toNat + k.toNat) = (HA (k + 3 * mi).toNat) := congrArg HA (by omega)
    rw [eh] at hbk
    have a := cs_rt hr (j := (9 * k + 8).toNat) (by omega) (by omega)
    have e9 : cs_cb (M0.1 s) HA mi.toNat (n + 1) k.toNat = if (HA (k + 3 * mi).toNat) + cs_all (M0.1 s) k.toNat (12 - mi).toNat mi.toNat < M0.1 s (9 * k + 8).toNat then 0 else cs_cb (M0.1 s) HA mi.toNat n (k + 1).toNat := by
      show (if HA (3 * mi.toNat + k.toNat) + cs_all _ _ (12 - mi.toNat) _ < M0.1 s (8 + 9 * k.toNat) then (0 : Int) else cs_cb _ _ _ n (k.toNat + 1)) = _
      rw [eh, show 12 - mi.toNat = (12 - mi).toNat by omega, show 8 + 9 * k.toNat = (9 * k + 8).toNat by omega, show k.toNat + 1 = (k + 1).toNat by omega]
    have al := cs_all_9 hr (k := k.toNat) (by omega) (12 - mi).toNat mi.toNat (by omega)
    rw [e9] at h
    refine w_iln rfl ?_
    refine w_aln rfl ?_
    refine w_gr gm rfl (by decide) rfl (hC.r (m6)) ?_
    refine w_ic ?_
    refine w_iald (v := (M0.1 s 0)) gs rfl (by show (0 : Int) ≤ 0; omega) (by show 0 < ((537 : Nat) : Int); omega) ((hC.sj gr gs).trans (congrArg (M0.1 s) (by show (0 : Int).toNat = 0; omega))) ?_
    refine w_cmge (fun c1 => ?_) (fun c1 => ?_)
    · exfalso; omega
    · skip
      refine w_aln rfl ?_
      refine w_gr gm rfl (by decide) rfl (hC.r (br.2.2.1)) ?_
      refine w_ic ?_
      refine w_iln rfl ?_
      refine w_mul ⟨by show (-2147483648 : Int) ≤ 3 * mi; omega, by show 3 * mi < (2147483648 : Int); omega⟩ ?_
      refine w_iln rfl ?_
      refine w_add ⟨by show (-2147483648 : Int) ≤ (3 * mi) + k; omega, by show (3 * mi) + k < (2147483648 : Int); omega⟩ ?_
      refine w_iald (v := (HA (k + 3 * mi).toNat)) gr.2.2.1 rfl (by show (0 : Int) ≤ (3 * mi) + k; omega) (by show (3 * mi) + k < ((39 : Nat) : Int); omega) ((hC.2.2.2.2.1 _ (by show ((3 * mi) + k).toNat < 39; omega)).trans (congrArg HA (show ((3 * mi) + k).toNat = (k + 3 * mi).toNat by omega))) ?_
      refine w_isn ?_
      show wz _ _ _ _ [some (.inr (.inr (some m))), some (.inl mi), some (.inl k), some (.inl (HA (k + 3 * mi).toNat)), v4] _ _ _ _ _
      refine w_iln rfl ?_
      refine w_is ?_
      show wz _ _ _ _ [some (.inr (.inr (some m))), some (.inl mi), some (.inl k), some (.inl (HA (k + 3 * mi).toNat)), some (.inl mi)] _ _ _ _ _
      refine r_ci gr br gm gs m6 hr t1 t3 hC (by omega) (by omega) (12 - mi).toNat mi (HA (k + 3 * mi).toNat) _ _ (by omega) (by omega) (by omega) (by omega) (fun z cb sb ez => ?_)
      refine w_iln rfl ?_
      refine w_aln rfl ?_
      refine w_iln rfl ?_
      refine w_ic ?_
      refine w_cv (st := [.inl z]) rfl gm rfl (Nat.le_of_ble_eq_true rfl) (fun kk h => h) ⟨Nat.le_of_ble_eq_true rfl, ?_⟩
      show wz (d + 1) mt_X12_toldOf.2.2.2.2.1 _ mt_X12_toldOf.2.2.2.2.1 [some (.inr (.inr (some m))), some (.inl k), some (.inl 4)] [] _ _ _ _
      refine w_aln rfl ?_
      refine w_gr gm rfl (by decide) rfl (hC.r (m6)) ?_
      refine w_ic ?_
      refine w_bp ?_
      refine w_iln rfl ?_
      refine w_mul ⟨by show (-2147483648 : Int) ≤ 9 * k; omega, by show 9 * k < (2147483648 : Int); omega⟩ ?_
      refine w_add ⟨by show (-2147483648 : Int) ≤ 4 + (9 * k); omega, by show 4 + (9 * k) < (2147483648 : Int); omega⟩ ?_
      refine w_iln rfl ?_
      refine w_add ⟨by show (-2147483648 : Int) ≤ (4 + (9 * k)) + 4; omega, by show (4 + (9 * k)) + 4 < (2147483648 : Int); omega⟩ ?_
      refine w_iald (v := (M0.1 s (9 * k + 8).toNat)) gs rfl (by show (0 : Int) ≤ (4 + (9 * k)) + 4; omega) (by show (4 + (9 * k)) + 4 < ((537 : Nat) : Int); omega) ((hC.sj gr gs).trans (congrArg (M0.1 s) (by show ((4 + (9 * k)) + 4).toNat = (9 * k + 8).toNat; omega))) ?_
      refine w_iret (fun q => by cases q) ?_
      refine w_cmge (fun c2 => ?_) (fun c2 => ?_)
      · skip
        refine w_ii rfl ⟨by show (-2147483648 : Int) ≤ k + 1; omega, by show k + 1 < (2147483648 : Int); omega⟩ ?_
        show wz _ _ _ _ [some (.inr (.inr (some m))), some (.inl mi), some (.inl (k + 1)), some (.inl z), some (.inl 12)] _ _ _ _ _
        refine w_goto ?_
        rw [if_neg (by omega)] at h
        exact ih (k + 1) _ _ _ _ (by omega) (by omega) h
      · skip
        refine w_ic ?_
        rw [if_pos (by omega)] at h
        exact w_iret (fun _ => Or.inl rfl) h
theorem r_X12_canBe {G : mj_G} {M0 : mj_M} {m s : Nat} {w : Nat → Nat} {Q : mj_P} {d : Nat} (gr : cp_GR G w) (br : cp_BR M0 w m) (gm : G m = (1012, 0)) (gs : G s = (51100, 537)) (m6 : M0.2.2 m 6 = some s) (hr : rv_r4 (M0.1 s) 0) (t1 : 1 ≤ M0.1 s 0) (t3 : M0.1 s 0 ≤ 3) {M : mj_M} {TR CO HA PL : Nat → Int} (hC : cr_C w M0 TR CO HA PL M) {mi : Int} (m0 : 0 ≤ mi) (m12 : mi ≤ 12) (hb : ∀ q : Nat, (q : Int) < M0.1 s 0 → 0 ≤ HA (3 * mi.toNat + q) ∧ HA (3 * mi.toNat + q) ≤ 12000) (h : Q (some (.inl (cs_cb (M0.1 s) HA mi.toNat (cs_t (M0.1 s)) 0))) G M) : mj_R mj_tab (d + 3) 171 [.inr (.inr (some m)), .inl mi] G M Q := by
  have et := cs_te hr
  refine ⟨Nat.le_of_ble_eq_true rfl, ?_⟩
  show wz (d + 2) mt_X12_canBe.2.2.2.2.1 Q mt_X12_canBe.2.2.2.2.1 [some (.inr (.inr (some m))), some (.inl mi), none, none, none] [] G M _ _
  refine w_ic ?_
  refine w_isn ?_
  exact r_co gr br gm gs m6 hr t1 t3 hC m0 m12 hb (cs_t (M0.1 s)) 0 none none _ _ (by omega) (by decide) h
theorem r_X12_costOf {G : mj_G} {M0 : mj_M} {m s : Nat} {w : Nat → Nat} {Q : mj_P} {d : Nat} (gr : cp_GR G w) (br : cp_BR M0 w m) (gm : G m = (1012, 0)) (gs : G s = (51100, 537)) (m6 : M0.2.2 m 6 = some s) (hr : rv_r4 (M0.1 s) 0) (t1 : 1 ≤ M0.1 s 0) (t3 : M0.1 s 0 ≤ 3) {M : mj_M} {TR CO HA PL : Nat → Int} (hC : cr_C w M0 TR CO HA PL M) {mi to : Int} {a b : Nat} (m0 : 0 ≤ mi) (m11 : mi ≤ 11) (ha : a ≤ cs_t (M0.1 s)) (hb : b ≤ cs_t (M0.1 s)) (ea : (mi = 0 ∧ a = cs_t (M0.1 s)) ∨ (1 ≤ mi ∧ TR (mi - 1).toNat = cs_code (M0.1 s) a)) (eb : to = cs_code (M0.1 s) b) (h : Q (some (.inl (cs_cost (M0.1 s) a b))) G M) : mj_R mj_tab (d + 2) 178 [.inr (.inr (some m)), .inl mi, .inl to] G M Q := by
  have et := cs_te hr
  have b1 := cs_r1 hr
  have ca : (a = cs_t (M0.1 s) ∧ cs_code (M0.1 s) a = 8) ∨ (a < cs_t (M0.1 s) ∧ cs_code (M0.1 s) a = a) := by
    unfold cs_code; split <;> omega
  have cb : (b = cs_t (M0.1 s) ∧ cs_code (M0.1 s) b = 8) ∨ (b < cs_t (M0.1 s) ∧ cs_code (M0.1 s) b = b) := by
    unfold cs_code; split <;> omega
  have eb9 : 10 + 9 * b = (9 * (b : Int) + 10).toNat := by omega
  refine ⟨Nat.le_of_ble_eq_true rfl, ?_⟩
  show wz (d + 1) mt_X12_costOf.2.2.2.2.1 Q mt_X12_costOf.2.2.2.2.1 [some (.inr (.inr (some m))), some (.inl mi), some (.inl to), none] [] G M _ _
  refine w_iln rfl ?_
  refine w_ifne (fun c1 => ?_) (fun c1 => ?_)
  · skip
    refine w_aln rfl ?_
    refine w_gr gm rfl (by decide) rfl (hC.r (br.1)) ?_
    refine w_iln rfl ?_
    refine w_ic ?_
    refine w_sub ⟨by show (-2147483648 : Int) ≤ mi - 1; omega, by show mi - 1 < (2147483648 : Int); omega⟩ ?_
    refine w_iald (v := (TR (mi - 1).toNat)) gr.1 rfl (by show (0 : Int) ≤ mi - 1; omega) (by show mi - 1 < ((13 : Nat) : Int); omega) (hC.2.2.1 _ (by show (mi - 1).toNat < 13; omega)) ?_
    refine w_isn ?_
    show wz _ _ _ _ [some (.inr (.inr (some m))), some (.inl mi), some (.inl to), some (.inl (TR (mi - 1).toNat))] _ _ _ _ _
    refine w_aln rfl ?_
    refine w_gr gm rfl (by decide) rfl (hC.r (m6)) ?_
    refine w_ic ?_
    refine w_iald (v := (M0.1 s 1)) gs rfl (by show (0 : Int) ≤ 1; omega) (by show 1 < ((537 : Nat) : Int); omega) ((hC.sj gr gs).trans (congrArg (M0.1 s) (by show (1 : Int).toNat = 1; omega))) ?_
    refine w_aln rfl ?_
    refine w_iln rfl ?_
    refine w_cv (st := [.inl (M0.1 s 1)]) rfl gm rfl (Nat.le_of_ble_eq_true rfl) (fun kk h => h) ⟨Nat.le_of_ble_eq_true rfl, ?_⟩
    show wz (d) mt_X12_placeOf.2.2.2.2.1 _ mt_X12_placeOf.2.2.2.2.1 [some (.inr (.inr (some m))), some (.inl to)] [] _ _ _ _
    refine w_iln rfl ?_
    refine w_bp ?_
    refine w_cmne (fun c2 => ?_) (fun c2 => ?_)
    · skip
      refine w_iln rfl ?_
      refine w_iret (fun q => by cases q) ?_
      refine w_aln rfl ?_
      refine w_iln rfl ?_
      refine w_cv (st := [.inl to, .inl (M0.1 s 1)]) rfl gm rfl (Nat.le_of_ble_eq_true rfl) (fun kk h => h) ⟨Nat.le_of_ble_eq_true rfl, ?_⟩
      show wz (d) mt_X12_placeOf.2.2.2.2.1 _ mt_X12_placeOf.2.2.2.2.1 [some (.inr (.inr (some m))), some (.inl (TR (mi - 1).toNat))] [] _ _ _ _
      refine w_iln rfl ?_
      refine w_bp ?_
      refine w_cmne (fun c3 => ?_) (fun c3 => ?_)
      · skip
        refine w_iln rfl ?_
        refine w_iret (fun q => by cases q) ?_
        refine w_sub ⟨by show (-2147483648 : Int) ≤ to - (TR (mi - 1).toNat); omega, by show to - (TR (mi - 1).toNat) < (2147483648 : Int); omega⟩ ?_
        refine w_cs (st := [.inl (M0.1 s 1)]) rfl (Nat.le_of_ble_eq_true rfl) (fun kk h => h) ⟨Nat.le_of_ble_eq_true rfl, ?_⟩
        show wz (d) mt_X12_sizeOf.2.2.2.2.1 _ mt_X12_sizeOf.2.2.2.2.1 [some (.inl (to - (TR (mi - 1).toNat)))] [] _ _ _ _
        refine w_iln rfl ?_
        refine w_ifge (fun c4 => ?_) (fun c4 => ?_)
        · skip
          refine w_iln rfl ?_
          refine w_iret (fun q => by cases q) ?_
          have mb5 := cs_mul_b (u := (M0.1 s 1)) (z := to - (TR (mi - 1).toNat)) (n := 3) (by omega) (by omega) (by omega) (by omega)
          refine w_mul ⟨by show (-2147483648 : Int) ≤ (M0.1 s 1) * (to - (TR (mi - 1).toNat)); omega, by show (M0.1 s 1) * (to - (TR (mi - 1).toNat)) < (2147483648 : Int); omega⟩ ?_
          refine w_iln rfl ?_
          refine w_bp ?_
          refine w_cmge (fun c6 => ?_) (fun c6 => ?_)
          · exfalso; omega
          · skip
            refine w_iln rfl ?_
            refine w_iln rfl ?_
            refine w_cmeq (fun c7 => ?_) (fun c7 => ?_)
            · skip
              refine w_ic ?_
              refine w_add ⟨by show (-2147483648 : Int) ≤ ((M0.1 s 1) * (to - (TR (mi - 1).toNat))) + 0; omega, by show ((M0.1 s 1) * (to - (TR (mi - 1).toNat))) + 0 < (2147483648 : Int); omega⟩ ?_
              have ev : ((M0.1 s 1) * (to - (TR (mi - 1).toNat))) + 0 = cs_cost (M0.1 s) a b := cs_cost_i (z := to - (TR (mi - 1).toNat)) (v := 0) (by unfold cs_d; split <;> omega) (by rw [if_neg (by omega)])
              exact w_iret (fun q => by cases q) (by rw [ev]; exact h)
            · skip
              have tb8 := cs_rt hr (j := (9 * to + 10).toNat) (by omega) (by omega)
              refine w_aln rfl ?_
              refine w_iln rfl ?_
              refine w_bp ?_
              refine w_cv (st := [.inl ((M0.1 s 1) * (to - (TR (mi - 1).toNat)))]) rfl gm rfl (Nat.le_of_ble_eq_true rfl) (fun kk h => h) ⟨Nat.le_of_ble_eq_true rfl, ?_⟩
              show wz (d) mt_X12_toldOf.2.2.2.2.1 _ mt_X12_toldOf.2.2.2.2.1 [some (.inr (.inr (some m))), some (.inl to), some (.inl 6)] [] _ _ _ _
              refine w_aln rfl ?_
              refine w_gr gm rfl (by decide) rfl (hC.r (m6)) ?_
              refine w_ic ?_
              refine w_bp ?_
              refine w_iln rfl ?_
              refine w_mul ⟨by show (-2147483648 : Int) ≤ 9 * to; omega, by show 9 * to < (2147483648 : Int); omega⟩ ?_
              refine w_add ⟨by show (-2147483648 : Int) ≤ 4 + (9 * to); omega, by show 4 + (9 * to) < (2147483648 : Int); omega⟩ ?_
              refine w_iln rfl ?_
              refine w_add ⟨by show (-2147483648 : Int) ≤ (4 + (9 * to)) + 6; omega, by show (4 + (9 * to)) + 6 < (2147483648 : Int); omega⟩ ?_
              refine w_iald (v := (M0.1 s (9 * to + 10).toNat)) gs rfl (by show (0 : Int) ≤ (4 + (9 * to)) + 6; omega) (by show (4 + (9 * to)) + 6 < ((537 : Nat) : Int); omega) ((hC.sj gr gs).trans (congrArg (M0.1 s) (by show ((4 + (9 * to)) + 6).toNat = (9 * to + 10).toNat; omega))) ?_
              refine w_iret (fun q => by cases q) ?_
              refine w_goto ?_
              refine w_add ⟨by show (-2147483648 : Int) ≤ ((M0.1 s 1) * (to - (TR (mi - 1).toNat))) + (M0.1 s (9 * to + 10).toNat); omega, by show ((M0.1 s 1) * (to - (TR (mi - 1).toNat))) + (M0.1 s (9 * to + 10).toNat) < (2147483648 : Int); omega⟩ ?_
              have ev : ((M0.1 s 1) * (to - (TR (mi - 1).toNat))) + (M0.1 s (9 * to + 10).toNat) = cs_cost (M0.1 s) a b := cs_cost_i (z := to - (TR (mi - 1).toNat)) (by unfold cs_d; split <;> omega) (by rw [if_pos (by omega), eb9]; exact congrArg (M0.1 s) (by omega))
              exact w_iret (fun q => by cases q) (by rw [ev]; exact h)
        · skip
          refine w_iln rfl ?_
          refine w_neg ⟨by show (-2147483648 : Int) ≤ to - (TR (mi - 1).toNat); omega, by show to - (TR (mi - 1).toNat) < (2147483648 : Int); omega⟩ (by omega) ?_
          refine w_goto ?_
          refine w_iret (fun q => by cases q) ?_
          have mb9 := cs_mul_b (u := (M0.1 s 1)) (z := (-(to - (TR (mi - 1).toNat)))) (n := 3) (by omega) (by omega) (by omega) (by omega)
          refine w_mul ⟨by show (-2147483648 : Int) ≤ (M0.1 s 1) * (-(to - (TR (mi - 1).toNat))); omega, by show (M0.1 s 1) * (-(to - (TR (mi - 1).toNat))) < (2147483648 : Int); omega⟩ ?_
          refine w_iln rfl ?_
          refine w_bp ?_
          refine w_cmge (fun c10 => ?_) (fun c10 => ?_)
          · exfalso; omega
          · skip
            refine w_iln rfl ?_
            refine w_iln rfl ?_
            refine w_cmeq (fun c11 => ?_) (fun c11 => ?_)
            · exfalso; omega
            · skip
              have tb12 := cs_rt hr (j := (9 * to + 10).toNat) (by omega) (by omega)
              refine w_aln rfl ?_
              refine w_iln rfl ?_
              refine w_bp ?_
              refine w_cv (st := [.inl ((M0.1 s 1) * (-(to - (TR (mi - 1).toNat))))]) rfl gm rfl (Nat.le_of_ble_eq_true rfl) (fun kk h => h) ⟨Nat.le_of_ble_eq_true rfl, ?_⟩
              show wz (d) mt_X12_toldOf.2.2.2.2.1 _ mt_X12_toldOf.2.2.2.2.1 [some (.inr (.inr (some m))), some (.inl to), some (.inl 6)] [] _ _ _ _
              refine w_aln rfl ?_
              refine w_gr gm rfl (by decide) rfl (hC.r (m6)) ?_
              refine w_ic ?_
              refine w_bp ?_
              refine w_iln rfl ?_
              refine w_mul ⟨by show (-2147483648 : Int) ≤ 9 * to; omega, by show 9 * to < (2147483648 : Int); omega⟩ ?_
              refine w_add ⟨by show (-2147483648 : Int) ≤ 4 + (9 * to); omega, by show 4 + (9 * to) < (2147483648 : Int); omega⟩ ?_
              refine w_iln rfl ?_
              refine w_add ⟨by show (-2147483648 : Int) ≤ (4 + (9 * to)) + 6; omega, by show (4 + (9 * to)) + 6 < (2147483648 : Int); omega⟩ ?_
              refine w_iald (v := (M0.1 s (9 * to + 10).toNat)) gs rfl (by show (0 : Int) ≤ (4 + (9 * to)) + 6; omega) (by show (4 + (9 * to)) + 6 < ((537 : Nat) : Int); omega) ((hC.sj gr gs).trans (congrArg (M0.1 s) (by show ((4 + (9 * to)) + 6).toNat = (9 * to + 10).toNat; omega))) ?_
              refine w_iret (fun q => by cases q) ?_
              refine w_goto ?_
              refine w_add ⟨by show (-2147483648 : Int) ≤ ((M0.1 s 1) * (-(to - (TR (mi - 1).toNat)))) + (M0.1 s (9 * to + 10).toNat); omega, by show ((M0.1 s 1) * (-(to - (TR (mi - 1).toNat)))) + (M0.1 s (9 * to + 10).toNat) < (2147483648 : Int); omega⟩ ?_
              have ev : ((M0.1 s 1) * (-(to - (TR (mi - 1).toNat)))) + (M0.1 s (9 * to + 10).toNat) = cs_cost (M0.1 s) a b := cs_cost_i (z := (-(to - (TR (mi - 1).toNat)))) (by unfold cs_d; split <;> omega) (by rw [if_pos (by omega), eb9]; exact congrArg (M0.1 s) (by omega))
              exact w_iret (fun q => by cases q) (by rw [ev]; exact h)
      · skip
        refine w_aln rfl ?_
        refine w_gr gm rfl (by decide) rfl (hC.r (m6)) ?_
        refine w_ic ?_
        refine w_iald (v := (M0.1 s 0)) gs rfl (by show (0 : Int) ≤ 0; omega) (by show 0 < ((537 : Nat) : Int); omega) ((hC.sj gr gs).trans (congrArg (M0.1 s) (by show (0 : Int).toNat = 0; omega))) ?_
        refine w_goto ?_
        refine w_iret (fun q => by cases q) ?_
        refine w_sub ⟨by show (-2147483648 : Int) ≤ to - (M0.1 s 0); omega, by show to - (M0.1 s 0) < (2147483648 : Int); omega⟩ ?_
        refine w_cs (st := [.inl (M0.1 s 1)]) rfl (Nat.le_of_ble_eq_true rfl) (fun kk h => h) ⟨Nat.le_of_ble_eq_true rfl, ?_⟩
        show wz (d) mt_X12_sizeOf.2.2.2.2.1 _ mt_X12_sizeOf.2.2.2.2.1 [some (.inl (to - (M0.1 s 0)))] [] _ _ _ _
        refine w_iln rfl ?_
        refine w_ifge (fun c13 => ?_) (fun c13 => ?_)
        · exfalso; omega
        · skip
          refine w_iln rfl ?_
          refine w_neg ⟨by show (-2147483648 : Int) ≤ to - (M0.1 s 0); omega, by show to - (M0.1 s 0) < (2147483648 : Int); omega⟩ (by omega) ?_
          refine w_goto ?_
          refine w_iret (fun q => by cases q) ?_
          have mb14 := cs_mul_b (u := (M0.1 s 1)) (z := (-(to - (M0.1 s 0)))) (n := 3) (by omega) (by omega) (by omega) (by omega)
          refine w_mul ⟨by show (-2147483648 : Int) ≤ (M0.1 s 1) * (-(to - (M0.1 s 0))); omega, by show (M0.1 s 1) * (-(to - (M0.1 s 0))) < (2147483648 : Int); omega⟩ ?_
          refine w_iln rfl ?_
          refine w_bp ?_
          refine w_cmge (fun c15 => ?_) (fun c15 => ?_)
          · exfalso; omega
          · skip
            refine w_iln rfl ?_
            refine w_iln rfl ?_
            refine w_cmeq (fun c16 => ?_) (fun c16 => ?_)
            · exfalso; omega
            · skip
              have tb17 := cs_rt hr (j := (9 * to + 10).toNat) (by omega) (by omega)
              refine w_aln rfl ?_
              refine w_iln rfl ?_
              refine w_bp ?_
              refine w_cv (st := [.inl ((M0.1 s 1) * (-(to - (M0.1 s 0))))]) rfl gm rfl (Nat.le_of_ble_eq_true rfl) (fun kk h => h) ⟨Nat.le_of_ble_eq_true rfl, ?_⟩
              show wz (d) mt_X12_toldOf.2.2.2.2.1 _ mt_X12_toldOf.2.2.2.2.1 [some (.inr (.inr (some m))), some (.inl to), some (.inl 6)] [] _ _ _ _
              refine w_aln rfl ?_
              refine w_gr gm rfl (by decide) rfl (hC.r (m6)) ?_
              refine w_ic ?_
              refine w_bp ?_
              refine w_iln rfl ?_
              refine w_mul ⟨by show (-2147483648 : Int) ≤ 9 * to; omega, by show 9 * to < (2147483648 : Int); omega⟩ ?_
              refine w_add ⟨by show (-2147483648 : Int) ≤ 4 + (9 * to); omega, by show 4 + (9 * to) < (2147483648 : Int); omega⟩ ?_
              refine w_iln rfl ?_
              refine w_add ⟨by show (-2147483648 : Int) ≤ (4 + (9 * to)) + 6; omega, by show (4 + (9 * to)) + 6 < (2147483648 : Int); omega⟩ ?_
              refine w_iald (v := (M0.1 s (9 * to + 10).toNat)) gs rfl (by show (0 : Int) ≤ (4 + (9 * to)) + 6; omega) (by show (4 + (9 * to)) + 6 < ((537 : Nat) : Int); omega) ((hC.sj gr gs).trans (congrArg (M0.1 s) (by show ((4 + (9 * to)) + 6).toNat = (9 * to + 10).toNat; omega))) ?_
              refine w_iret (fun q => by cases q) ?_
              refine w_goto ?_
              refine w_add ⟨by show (-2147483648 : Int) ≤ ((M0.1 s 1) * (-(to - (M0.1 s 0)))) + (M0.1 s (9 * to + 10).toNat); omega, by show ((M0.1 s 1) * (-(to - (M0.1 s 0)))) + (M0.1 s (9 * to + 10).toNat) < (2147483648 : Int); omega⟩ ?_
              have ev : ((M0.1 s 1) * (-(to - (M0.1 s 0)))) + (M0.1 s (9 * to + 10).toNat) = cs_cost (M0.1 s) a b := cs_cost_i (z := (-(to - (M0.1 s 0)))) (by unfold cs_d; split <;> omega) (by rw [if_pos (by omega), eb9]; exact congrArg (M0.1 s) (by omega))
              exact w_iret (fun q => by cases q) (by rw [ev]; exact h)
    · skip
      refine w_aln rfl ?_
      refine w_gr gm rfl (by decide) rfl (hC.r (m6)) ?_
      refine w_ic ?_
      refine w_iald (v := (M0.1 s 0)) gs rfl (by show (0 : Int) ≤ 0; omega) (by show 0 < ((537 : Nat) : Int); omega) ((hC.sj gr gs).trans (congrArg (M0.1 s) (by show (0 : Int).toNat = 0; omega))) ?_
      refine w_goto ?_
      refine w_iret (fun q => by cases q) ?_
      refine w_aln rfl ?_
      refine w_iln rfl ?_
      refine w_cv (st := [.inl (M0.1 s 0), .inl (M0.1 s 1)]) rfl gm rfl (Nat.le_of_ble_eq_true rfl) (fun kk h => h) ⟨Nat.le_of_ble_eq_true rfl, ?_⟩
      show wz (d) mt_X12_placeOf.2.2.2.2.1 _ mt_X12_placeOf.2.2.2.2.1 [some (.inr (.inr (some m))), some (.inl (TR (mi - 1).toNat))] [] _ _ _ _
      refine w_iln rfl ?_
      refine w_bp ?_
      refine w_cmne (fun c18 => ?_) (fun c18 => ?_)
      · skip
        refine w_iln rfl ?_
        refine w_iret (fun q => by cases q) ?_
        refine w_sub ⟨by show (-2147483648 : Int) ≤ (M0.1 s 0) - (TR (mi - 1).toNat); omega, by show (M0.1 s 0) - (TR (mi - 1).toNat) < (2147483648 : Int); omega⟩ ?_
        refine w_cs (st := [.inl (M0.1 s 1)]) rfl (Nat.le_of_ble_eq_true rfl) (fun kk h => h) ⟨Nat.le_of_ble_eq_true rfl, ?_⟩
        show wz (d) mt_X12_sizeOf.2.2.2.2.1 _ mt_X12_sizeOf.2.2.2.2.1 [some (.inl ((M0.1 s 0) - (TR (mi - 1).toNat)))] [] _ _ _ _
        refine w_iln rfl ?_
        refine w_ifge (fun c19 => ?_) (fun c19 => ?_)
        · skip
          refine w_iln rfl ?_
          refine w_iret (fun q => by cases q) ?_
          have mb20 := cs_mul_b (u := (M0.1 s 1)) (z := (M0.1 s 0) - (TR (mi - 1).toNat)) (n := 3) (by omega) (by omega) (by omega) (by omega)
          refine w_mul ⟨by show (-2147483648 : Int) ≤ (M0.1 s 1) * ((M0.1 s 0) - (TR (mi - 1).toNat)); omega, by show (M0.1 s 1) * ((M0.1 s 0) - (TR (mi - 1).toNat)) < (2147483648 : Int); omega⟩ ?_
          refine w_iln rfl ?_
          refine w_bp ?_
          refine w_cmge (fun c21 => ?_) (fun c21 => ?_)
          · skip
            refine w_ic ?_
            refine w_add ⟨by show (-2147483648 : Int) ≤ ((M0.1 s 1) * ((M0.1 s 0) - (TR (mi - 1).toNat))) + 0; omega, by show ((M0.1 s 1) * ((M0.1 s 0) - (TR (mi - 1).toNat))) + 0 < (2147483648 : Int); omega⟩ ?_
            have ev : ((M0.1 s 1) * ((M0.1 s 0) - (TR (mi - 1).toNat))) + 0 = cs_cost (M0.1 s) a b := cs_cost_i (z := (M0.1 s 0) - (TR (mi - 1).toNat)) (v := 0) (by unfold cs_d; split <;> omega) (by rw [if_neg (by omega)])
            exact w_iret (fun q => by cases q) (by rw [ev]; exact h)
          · exfalso; omega
        · exfalso; omega
      · skip
        refine w_aln rfl ?_
        refine w_gr gm rfl (by decide) rfl (hC.r (m6)) ?_
        refine w_ic ?_
        refine w_iald (v := (M0.1 s 0)) gs rfl (by show (0 : Int) ≤ 0; omega) (by show 0 < ((537 : Nat) : Int); omega) ((hC.sj gr gs).trans (congrArg (M0.1 s) (by show (0 : Int).toNat = 0; omega))) ?_
        refine w_goto ?_
        refine w_iret (fun q => by cases q) ?_
        refine w_sub ⟨by show (-2147483648 : Int) ≤ (M0.1 s 0) - (M0.1 s 0); omega, by show (M0.1 s 0) - (M0.1 s 0) < (2147483648 : Int); omega⟩ ?_
        refine w_cs (st := [.inl (M0.1 s 1)]) rfl (Nat.le_of_ble_eq_true rfl) (fun kk h => h) ⟨Nat.le_of_ble_eq_true rfl, ?_⟩
        show wz (d) mt_X12_sizeOf.2.2.2.2.1 _ mt_X12_sizeOf.2.2.2.2.1 [some (.inl ((M0.1 s 0) - (M0.1 s 0)))] [] _ _ _ _
        refine w_iln rfl ?_
        refine w_ifge (fun c22 => ?_) (fun c22 => ?_)
        · skip
          refine w_iln rfl ?_
          refine w_iret (fun q => by cases q) ?_
          have mb23 := cs_mul_b (u := (M0.1 s 1)) (z := (M0.1 s 0) - (M0.1 s 0)) (n := 3) (by omega) (by omega) (by omega) (by omega)
          refine w_mul ⟨by show (-2147483648 : Int) ≤ (M0.1 s 1) * ((M0.1 s 0) - (M0.1 s 0)); omega, by show (M0.1 s 1) * ((M0.1 s 0) - (M0.1 s 0)) < (2147483648 : Int); omega⟩ ?_
          refine w_iln rfl ?_
          refine w_bp ?_
          refine w_cmge (fun c24 => ?_) (fun c24 => ?_)
          · skip
            refine w_ic ?_
            refine w_add ⟨by show (-2147483648 : Int) ≤ ((M0.1 s 1) * ((M0.1 s 0) - (M0.1 s 0))) + 0; omega, by show ((M0.1 s 1) * ((M0.1 s 0) - (M0.1 s 0))) + 0 < (2147483648 : Int); omega⟩ ?_
            have ev : ((M0.1 s 1) * ((M0.1 s 0) - (M0.1 s 0))) + 0 = cs_cost (M0.1 s) a b := cs_cost_i (z := (M0.1 s 0) - (M0.1 s 0)) (v := 0) (by unfold cs_d; split <;> omega) (by rw [if_neg (by omega)])
            exact w_iret (fun q => by cases q) (by rw [ev]; exact h)
          · exfalso; omega
        · exfalso; omega
  · skip
    refine w_bp ?_
    refine w_goto ?_
    refine w_isn ?_
    show wz _ _ _ _ [some (.inr (.inr (some m))), some (.inl mi), some (.inl to), some (.inl 8)] _ _ _ _ _
    refine w_aln rfl ?_
    refine w_gr gm rfl (by decide) rfl (hC.r (m6)) ?_
    refine w_ic ?_
    refine w_iald (v := (M0.1 s 1)) gs rfl (by show (0 : Int) ≤ 1; omega) (by show 1 < ((537 : Nat) : Int); omega) ((hC.sj gr gs).trans (congrArg (M0.1 s) (by show (1 : Int).toNat = 1; omega))) ?_
    refine w_aln rfl ?_
    refine w_iln rfl ?_
    refine w_cv (st := [.inl (M0.1 s 1)]) rfl gm rfl (Nat.le_of_ble_eq_true rfl) (fun kk h => h) ⟨Nat.le_of_ble_eq_true rfl, ?_⟩
    show wz (d) mt_X12_placeOf.2.2.2.2.1 _ mt_X12_placeOf.2.2.2.2.1 [some (.inr (.inr (some m))), some (.inl to)] [] _ _ _ _
    refine w_iln rfl ?_
    refine w_bp ?_
    refine w_cmne (fun c25 => ?_) (fun c25 => ?_)
    · skip
      refine w_iln rfl ?_
      refine w_iret (fun q => by cases q) ?_
      refine w_aln rfl ?_
      refine w_iln rfl ?_
      refine w_cv (st := [.inl to, .inl (M0.1 s 1)]) rfl gm rfl (Nat.le_of_ble_eq_true rfl) (fun kk h => h) ⟨Nat.le_of_ble_eq_true rfl, ?_⟩
      show wz (d) mt_X12_placeOf.2.2.2.2.1 _ mt_X12_placeOf.2.2.2.2.1 [some (.inr (.inr (some m))), some (.inl 8)] [] _ _ _ _
      refine w_iln rfl ?_
      refine w_bp ?_
      refine w_cmne (fun c26 => ?_) (fun c26 => ?_)
      · exfalso; omega
      · skip
        refine w_aln rfl ?_
        refine w_gr gm rfl (by decide) rfl (hC.r (m6)) ?_
        refine w_ic ?_
        refine w_iald (v := (M0.1 s 0)) gs rfl (by show (0 : Int) ≤ 0; omega) (by show 0 < ((537 : Nat) : Int); omega) ((hC.sj gr gs).trans (congrArg (M0.1 s) (by show (0 : Int).toNat = 0; omega))) ?_
        refine w_goto ?_
        refine w_iret (fun q => by cases q) ?_
        refine w_sub ⟨by show (-2147483648 : Int) ≤ to - (M0.1 s 0); omega, by show to - (M0.1 s 0) < (2147483648 : Int); omega⟩ ?_
        refine w_cs (st := [.inl (M0.1 s 1)]) rfl (Nat.le_of_ble_eq_true rfl) (fun kk h => h) ⟨Nat.le_of_ble_eq_true rfl, ?_⟩
        show wz (d) mt_X12_sizeOf.2.2.2.2.1 _ mt_X12_sizeOf.2.2.2.2.1 [some (.inl (to - (M0.1 s 0)))] [] _ _ _ _
        refine w_iln rfl ?_
        refine w_ifge (fun c27 => ?_) (fun c27 => ?_)
        · exfalso; omega
        · skip
          refine w_iln rfl ?_
          refine w_neg ⟨by show (-2147483648 : Int) ≤ to - (M0.1 s 0); omega, by show to - (M0.1 s 0) < (2147483648 : Int); omega⟩ (by omega) ?_
          refine w_goto ?_
          refine w_iret (fun q => by cases q) ?_
          have mb28 := cs_mul_b (u := (M0.1 s 1)) (z := (-(to - (M0.1 s 0)))) (n := 3) (by omega) (by omega) (by omega) (by omega)
          refine w_mul ⟨by show (-2147483648 : Int) ≤ (M0.1 s 1) * (-(to - (M0.1 s 0))); omega, by show (M0.1 s 1) * (-(to - (M0.1 s 0))) < (2147483648 : Int); omega⟩ ?_
          refine w_iln rfl ?_
          refine w_bp ?_
          refine w_cmge (fun c29 => ?_) (fun c29 => ?_)
          · exfalso; omega
          · skip
            refine w_iln rfl ?_
            refine w_iln rfl ?_
            refine w_cmeq (fun c30 => ?_) (fun c30 => ?_)
            · exfalso; omega
            · skip
              have tb31 := cs_rt hr (j := (9 * to + 10).toNat) (by omega) (by omega)
              refine w_aln rfl ?_
              refine w_iln rfl ?_
              refine w_bp ?_
              refine w_cv (st := [.inl ((M0.1 s 1) * (-(to - (M0.1 s 0))))]) rfl gm rfl (Nat.le_of_ble_eq_true rfl) (fun kk h => h) ⟨Nat.le_of_ble_eq_true rfl, ?_⟩
              show wz (d) mt_X12_toldOf.2.2.2.2.1 _ mt_X12_toldOf.2.2.2.2.1 [some (.inr (.inr (some m))), some (.inl to), some (.inl 6)] [] _ _ _ _
              refine w_aln rfl ?_
              refine w_gr gm rfl (by decide) rfl (hC.r (m6)) ?_
              refine w_ic ?_
              refine w_bp ?_
              refine w_iln rfl ?_
              refine w_mul ⟨by show (-2147483648 : Int) ≤ 9 * to; omega, by show 9 * to < (2147483648 : Int); omega⟩ ?_
              refine w_add ⟨by show (-2147483648 : Int) ≤ 4 + (9 * to); omega, by show 4 + (9 * to) < (2147483648 : Int); omega⟩ ?_
              refine w_iln rfl ?_
              refine w_add ⟨by show (-2147483648 : Int) ≤ (4 + (9 * to)) + 6; omega, by show (4 + (9 * to)) + 6 < (2147483648 : Int); omega⟩ ?_
              refine w_iald (v := (M0.1 s (9 * to + 10).toNat)) gs rfl (by show (0 : Int) ≤ (4 + (9 * to)) + 6; omega) (by show (4 + (9 * to)) + 6 < ((537 : Nat) : Int); omega) ((hC.sj gr gs).trans (congrArg (M0.1 s) (by show ((4 + (9 * to)) + 6).toNat = (9 * to + 10).toNat; omega))) ?_
              refine w_iret (fun q => by cases q) ?_
              refine w_goto ?_
              refine w_add ⟨by show (-2147483648 : Int) ≤ ((M0.1 s 1) * (-(to - (M0.1 s 0)))) + (M0.1 s (9 * to + 10).toNat); omega, by show ((M0.1 s 1) * (-(to - (M0.1 s 0)))) + (M0.1 s (9 * to + 10).toNat) < (2147483648 : Int); omega⟩ ?_
              have ev : ((M0.1 s 1) * (-(to - (M0.1 s 0)))) + (M0.1 s (9 * to + 10).toNat) = cs_cost (M0.1 s) a b := cs_cost_i (z := (-(to - (M0.1 s 0)))) (by unfold cs_d; split <;> omega) (by rw [if_pos (by omega), eb9]; exact congrArg (M0.1 s) (by omega))
              exact w_iret (fun q => by cases q) (by rw [ev]; exact h)
    · skip
      refine w_aln rfl ?_
      refine w_gr gm rfl (by decide) rfl (hC.r (m6)) ?_
      refine w_ic ?_
      refine w_iald (v := (M0.1 s 0)) gs rfl (by show (0 : Int) ≤ 0; omega) (by show 0 < ((537 : Nat) : Int); omega) ((hC.sj gr gs).trans (congrArg (M0.1 s) (by show (0 : Int).toNat = 0; omega))) ?_
      refine w_goto ?_
      refine w_iret (fun q => by cases q) ?_
      refine w_aln rfl ?_
      refine w_iln rfl ?_
      refine w_cv (st := [.inl (M0.1 s 0), .inl (M0.1 s 1)]) rfl gm rfl (Nat.le_of_ble_eq_true rfl) (fun kk h => h) ⟨Nat.le_of_ble_eq_true rfl, ?_⟩
      show wz (d) mt_X12_placeOf.2.2.2.2.1 _ mt_X12_placeOf.2.2.2.2.1 [some (.inr (.inr (some m))), some (.inl 8)] [] _ _ _ _
      refine w_iln rfl ?_
      refine w_bp ?_
      refine w_cmne (fun c32 => ?_) (fun c32 => ?_)
      · exfalso; omega
      · skip
        refine w_aln rfl ?_
        refine w_gr gm rfl (by decide) rfl (hC.r (m6)) ?_
        refine w_ic ?_
        refine w_iald (v := (M0.1 s 0)) gs rfl (by show (0 : Int) ≤ 0; omega) (by show 0 < ((537 : Nat) : Int); omega) ((hC.sj gr gs).trans (congrArg (M0.1 s) (by show (0 : Int).toNat = 0; omega))) ?_
        refine w_goto ?_
        refine w_iret (fun q => by cases q) ?_
        refine w_sub ⟨by show (-2147483648 : Int) ≤ (M0.1 s 0) - (M0.1 s 0); omega, by show (M0.1 s 0) - (M0.1 s 0) < (2147483648 : Int); omega⟩ ?_
        refine w_cs (st := [.inl (M0.1 s 1)]) rfl (Nat.le_of_ble_eq_true rfl) (fun kk h => h) ⟨Nat.le_of_ble_eq_true rfl, ?_⟩
        show wz (d) mt_X12_sizeOf.2.2.2.2.1 _ mt_X12_sizeOf.2.2.2.2.1 [some (.inl ((M0.1 s 0) - (M0.1 s 0)))] [] _ _ _ _
        refine w_iln rfl ?_
        refine w_ifge (fun c33 => ?_) (fun c33 => ?_)
        · skip
          refine w_iln rfl ?_
          refine w_iret (fun q => by cases q) ?_
          have mb34 := cs_mul_b (u := (M0.1 s 1)) (z := (M0.1 s 0) - (M0.1 s 0)) (n := 3) (by omega) (by omega) (by omega) (by omega)
          refine w_mul ⟨by show (-2147483648 : Int) ≤ (M0.1 s 1) * ((M0.1 s 0) - (M0.1 s 0)); omega, by show (M0.1 s 1) * ((M0.1 s 0) - (M0.1 s 0)) < (2147483648 : Int); omega⟩ ?_
          refine w_iln rfl ?_
          refine w_bp ?_
          refine w_cmge (fun c35 => ?_) (fun c35 => ?_)
          · skip
            refine w_ic ?_
            refine w_add ⟨by show (-2147483648 : Int) ≤ ((M0.1 s 1) * ((M0.1 s 0) - (M0.1 s 0))) + 0; omega, by show ((M0.1 s 1) * ((M0.1 s 0) - (M0.1 s 0))) + 0 < (2147483648 : Int); omega⟩ ?_
            have ev : ((M0.1 s 1) * ((M0.1 s 0) - (M0.1 s 0))) + 0 = cs_cost (M0.1 s) a b := cs_cost_i (z := (M0.1 s 0) - (M0.1 s 0)) (v := 0) (by unfold cs_d; split <;> omega) (by rw [if_neg (by omega)])
            exact w_iret (fun q => by cases q) (by rw [ev]; exact h)
          · exfalso; omega
        · exfalso; omega
theorem r_hv {G : mj_G} {M0 : mj_M} {m s : Nat} {w : Nat → Nat} {Q : mj_P} {d : Nat} (gr : cp_GR G w) (br : cp_BR M0 w m) (gm : G m = (1012, 0)) (gs : G s = (51100, 537)) (m6 : M0.2.2 m 6 = some s) (hr : rv_r4 (M0.1 s) 0) (t1 : 1 ≤ M0.1 s 0) (t3 : M0.1 s 0 ≤ 3) {M : mj_M} {TR CO HA PL : Nat → Int} (hC : cr_C w M0 TR CO HA PL M) {mi best tv : Int} (m0 : 0 ≤ mi) (m11 : mi ≤ 11) (etv : TR mi.toNat = tv) (hb : ∀ q : Nat, (q : Int) < M0.1 s 0 → 0 ≤ HA (3 * mi.toNat + q) ∧ HA (3 * mi.toNat + q) ≤ 12000) : ∀ (n : Nat) (k : Int) (HA2 : Nat → Int) (M2 : mj_M) (cb sb : Nat), k + n = M0.1 s 0 → 0 ≤ k → cr_C w M0 TR CO HA2 PL M2 → (∀ j : Nat, (j : Int) < 3 * mi + 3 → HA2 j = HA j) → (∀ q : Nat, (q : Int) < k → HA2 (3 * mi.toNat + 3 + q) = HA (3 * mi.toNat + q) + if (q : Int) = tv then cs_gain (M0.1 s) q mi.toNat else 0) → (∀ (HA2 : Nat → Int) (M2 : mj_M) (v4 : Option mj_V) (cb sb : Nat), cr_C w M0 TR CO HA2 PL M2 → (∀ j : Nat, (j : Int) < 3 * mi + 3 → HA2 j = HA j) → (∀ q : Nat, (q : Int) < M0.1 s 0 → HA2 (3 * mi.toNat + 3 + q) = HA (3 * mi.toNat + q) + if (q : Int) = tv then cs_gain (M0.1 s) q mi.toNat else 0) → wz (d + 2) mt_X12_cheapest.2.2.2.2.1 Q (mt_X12_cheapest.2.2.2.2.1.drop 183) [some (.inr (.inr (some m))), some (.inl (M0.1 s 0)), some (.inl best), some (.inl mi), v4] [] G M2 cb sb) → wz (d + 2) mt_X12_cheapest.2.2.2.2.1 Q (mt_X12_cheapest.2.2.2.2.1.drop 147) [some (.inr (.inr (some m))), some (.inl (M0.1 s 0)), some (.inl best), some (.inl mi), some (.inl k)] [] G M2 cb sb := by
  have et := cs_te hr
  have b1 := cs_r1 hr
  have bw := cs_rw hr (j := (mi + 76).toNat) (by omega) (by omega)
  intro n
  induction n with
  | zero =>
    intro k HA2 M2 cb sb e k0 hC2 h1 h2 h
    refine w_il rfl ?_
    refine w_iln rfl ?_
    refine w_cmge (fun c1 => ?_) (fun c1 => ?_)
    · skip
      exact h HA2 M2 _ _ _ hC2 h1 (fun q hq => h2 q (by omega))
    · exfalso; omega
  | succ n ih =>
    intro k HA2 M2 cb sb e k0 hC2 h1 h2 h
    have hbk := hb k.toNat (by omega)
    have eh : (HA2 (k + 3 * mi).toNat) = HA (3 * mi.toNat + k.toNat) := (h1 _ (by omega)).trans (congrArg HA (by omega))
    have hb1 : 0 ≤ (HA2 (k + 3 * mi).toNat) ∧ (HA2 (k + 3 * mi).toNat) ≤ 12000 := by rw [eh]; exact hbk
    have a := cs_rt hr (j := (9 * k + 4).toNat) (by omega) (by omega)
    have etv2 : TR mi.toNat = tv := etv
    refine w_il rfl ?_
    refine w_iln rfl ?_
    refine w_cmge (fun c1 => ?_) (fun c1 => ?_)
    · exfalso; omega
    · skip
      refine w_aln rfl ?_
      refine w_gr gm rfl (by decide) rfl (hC2.r (br.2.2.1)) ?_
      refine w_ic ?_
      refine w_iln rfl ?_
      refine w_mul ⟨by show (-2147483648 : Int) ≤ 3 * mi; omega, by show 3 * mi < (2147483648 : Int); omega⟩ ?_
      refine w_ic ?_
      refine w_add ⟨by show (-2147483648 : Int) ≤ (3 * mi) + 3; omega, by show (3 * mi) + 3 < (2147483648 : Int); omega⟩ ?_
      refine w_il rfl ?_
      refine w_add ⟨by show (-2147483648 : Int) ≤ ((3 * mi) + 3) + k; omega, by show ((3 * mi) + 3) + k < (2147483648 : Int); omega⟩ ?_
      refine w_aln rfl ?_
      refine w_gr gm rfl (by decide) rfl (hC2.r (br.2.2.1)) ?_
      refine w_ic ?_
      refine w_iln rfl ?_
      refine w_mul ⟨by show (-2147483648 : Int) ≤ 3 * mi; omega, by show 3 * mi < (2147483648 : Int); omega⟩ ?_
      refine w_il rfl ?_
      refine w_add ⟨by show (-2147483648 : Int) ≤ (3 * mi) + k; omega, by show (3 * mi) + k < (2147483648 : Int); omega⟩ ?_
      refine w_iald (v := (HA2 (k + 3 * mi).toNat)) gr.2.2.1 rfl (by show (0 : Int) ≤ (3 * mi) + k; omega) (by show (3 * mi) + k < ((39 : Nat) : Int); omega) ((hC2.2.2.2.2.1 _ (by show ((3 * mi) + k).toNat < 39; omega)).trans (congrArg HA2 (show ((3 * mi) + k).toNat = (k + 3 * mi).toNat by omega))) ?_
      refine w_il rfl ?_
      refine w_aln rfl ?_
      refine w_gr gm rfl (by decide) rfl (hC2.r (br.1)) ?_
      refine w_iln rfl ?_
      refine w_iald (v := (TR mi.toNat)) gr.1 rfl (by show (0 : Int) ≤ mi; omega) (by show mi < ((13 : Nat) : Int); omega) (hC2.2.2.1 _ (by show mi.toNat < 13; omega)) ?_
      refine w_cmne (fun c2 => ?_) (fun c2 => ?_)
      · skip
        refine w_ic ?_
        refine w_add ⟨by show (-2147483648 : Int) ≤ (HA2 (k + 3 * mi).toNat) + 0; omega, by show (HA2 (k + 3 * mi).toNat) + 0 < (2147483648 : Int); omega⟩ ?_
        refine w_iast gr.2.2.1 rfl (by decide) (by show (0 : Int) ≤ ((3 * mi) + 3) + k; omega) (by show ((3 * mi) + 3) + k < ((39 : Nat) : Int); omega) ?_
        have hC3 := hC2.h7 (j := (((3 * mi) + 3) + k).toNat) (v := (HA2 (k + 3 * mi).toNat) + 0) gr
        refine w_ii rfl ⟨by show (-2147483648 : Int) ≤ k + 1; omega, by show k + 1 < (2147483648 : Int); omega⟩ ?_
        show wz _ _ _ _ [some (.inr (.inr (some m))), some (.inl (M0.1 s 0)), some (.inl best), some (.inl mi), some (.inl (k + 1))] _ _ _ _ _
        refine w_goto ?_
        refine ih (k + 1) _ _ _ _ (by omega) (by omega) hC3 (fun j hj => (rv_up_n (by omega)).trans (h1 j hj)) (fun q hq => ?_) h
        by_cases eq : (q : Int) = k
        · rw [show 3 * mi.toNat + 3 + q = (((3 * mi) + 3) + k).toNat by omega, rv_up_s, show 3 * mi.toNat + q = 3 * mi.toNat + k.toNat by omega, ← eh]
          rw [if_neg (by omega)]
        · exact (rv_up_n (by omega)).trans (h2 q (by omega))
      · skip
        refine w_aln rfl ?_
        refine w_il rfl ?_
        refine w_iln rfl ?_
        refine w_cv (st := [.inl (HA2 (k + 3 * mi).toNat), .inl (((3 * mi) + 3) + k), .inr (.inr (some (w 347)))]) rfl gm rfl (Nat.le_of_ble_eq_true rfl) (fun kk h => h) ⟨Nat.le_of_ble_eq_true rfl, ?_⟩
        show wz (d + 1) mt_X12_gains.2.2.2.2.1 _ mt_X12_gains.2.2.2.2.1 [some (.inr (.inr (some m))), some (.inl k), some (.inl mi)] [] _ _ _ _
        refine w_aln rfl ?_
        refine w_gr gm rfl (by decide) rfl (hC2.r (m6)) ?_
        refine w_bp ?_
        refine w_iln rfl ?_
        refine w_add ⟨by show (-2147483648 : Int) ≤ 76 + mi; omega, by show 76 + mi < (2147483648 : Int); omega⟩ ?_
        refine w_iald (v := (M0.1 s (mi + 76).toNat)) gs rfl (by show (0 : Int) ≤ 76 + mi; omega) (by show 76 + mi < ((537 : Nat) : Int); omega) ((hC2.sj gr gs).trans (congrArg (M0.1 s) (by show (76 + mi).toNat = (mi + 76).toNat; omega))) ?_
        refine w_aln rfl ?_
        refine w_iln rfl ?_
        refine w_ic ?_
        refine w_cv (st := [.inl (M0.1 s (mi + 76).toNat)]) rfl gm rfl (Nat.le_of_ble_eq_true rfl) (fun kk h => h) ⟨Nat.le_of_ble_eq_true rfl, ?_⟩
        show wz (d) mt_X12_toldOf.2.2.2.2.1 _ mt_X12_toldOf.2.2.2.2.1 [some (.inr (.inr (some m))), some (.inl k), some (.inl 0)] [] _ _ _ _
        refine w_aln rfl ?_
        refine w_gr gm rfl (by decide) rfl (hC2.r (m6)) ?_
        refine w_ic ?_
        refine w_bp ?_
        refine w_iln rfl ?_
        refine w_mul ⟨by show (-2147483648 : Int) ≤ 9 * k; omega, by show 9 * k < (2147483648 : Int); omega⟩ ?_
        refine w_add ⟨by show (-2147483648 : Int) ≤ 4 + (9 * k); omega, by show 4 + (9 * k) < (2147483648 : Int); omega⟩ ?_
        refine w_iln rfl ?_
        refine w_add ⟨by show (-2147483648 : Int) ≤ (4 + (9 * k)) + 0; omega, by show (4 + (9 * k)) + 0 < (2147483648 : Int); omega⟩ ?_
        refine w_iald (v := (M0.1 s (9 * k + 4).toNat)) gs rfl (by show (0 : Int) ≤ (4 + (9 * k)) + 0; omega) (by show (4 + (9 * k)) + 0 < ((537 : Nat) : Int); omega) ((hC2.sj gr gs).trans (congrArg (M0.1 s) (by show ((4 + (9 * k)) + 0).toNat = (9 * k + 4).toNat; omega))) ?_
        refine w_iret (fun q => by cases q) ?_
        refine w_cmle (fun c4 => ?_) (fun c4 => ?_)
        · skip
          refine w_ic ?_
          refine w_iret (fun q => by cases q) ?_
          refine w_goto ?_
          refine w_add ⟨by show (-2147483648 : Int) ≤ (HA2 (k + 3 * mi).toNat) + 0; omega, by show (HA2 (k + 3 * mi).toNat) + 0 < (2147483648 : Int); omega⟩ ?_
          refine w_iast gr.2.2.1 rfl (by decide) (by show (0 : Int) ≤ ((3 * mi) + 3) + k; omega) (by show ((3 * mi) + 3) + k < ((39 : Nat) : Int); omega) ?_
          have hC5 := hC2.h7 (j := (((3 * mi) + 3) + k).toNat) (v := (HA2 (k + 3 * mi).toNat) + 0) gr
          refine w_ii rfl ⟨by show (-2147483648 : Int) ≤ k + 1; omega, by show k + 1 < (2147483648 : Int); omega⟩ ?_
          show wz _ _ _ _ [some (.inr (.inr (some m))), some (.inl (M0.1 s 0)), some (.inl best), some (.inl mi), some (.inl (k + 1))] _ _ _ _ _
          refine w_goto ?_
          refine ih (k + 1) _ _ _ _ (by omega) (by omega) hC5 (fun j hj => (rv_up_n (by omega)).trans (h1 j hj)) (fun q hq => ?_) h
          by_cases eq : (q : Int) = k
          · rw [show 3 * mi.toNat + 3 + q = (((3 * mi) + 3) + k).toNat by omega, rv_up_s, show 3 * mi.toNat + q = 3 * mi.toNat + k.toNat by omega, ← eh]
            rw [if_pos (by omega), show q = k.toNat by omega, cs_gain_i k0 m0, if_neg (by omega)]
          · exact (rv_up_n (by omega)).trans (h2 q (by omega))
        · skip
          refine w_aln rfl ?_
          refine w_gr gm rfl (by decide) rfl (hC2.r (m6)) ?_
          refine w_bp ?_
          refine w_iln rfl ?_
          refine w_add ⟨by show (-2147483648 : Int) ≤ 76 + mi; omega, by show 76 + mi < (2147483648 : Int); omega⟩ ?_
          refine w_iald (v := (M0.1 s (mi + 76).toNat)) gs rfl (by show (0 : Int) ≤ 76 + mi; omega) (by show 76 + mi < ((537 : Nat) : Int); omega) ((hC2.sj gr gs).trans (congrArg (M0.1 s) (by show (76 + mi).toNat = (mi + 76).toNat; omega))) ?_
          refine w_aln rfl ?_
          refine w_iln rfl ?_
          refine w_ic ?_
          refine w_cv (st := [.inl (M0.1 s (mi + 76).toNat)]) rfl gm rfl (Nat.le_of_ble_eq_true rfl) (fun kk h => h) ⟨Nat.le_of_ble_eq_true rfl, ?_⟩
          show wz (d) mt_X12_toldOf.2.2.2.2.1 _ mt_X12_toldOf.2.2.2.2.1 [some (.inr (.inr (some m))), some (.inl k), some (.inl 0)] [] _ _ _ _
          refine w_aln rfl ?_
          refine w_gr gm rfl (by decide) rfl (hC2.r (m6)) ?_
          refine w_ic ?_
          refine w_bp ?_
          refine w_iln rfl ?_
          refine w_mul ⟨by show (-2147483648 : Int) ≤ 9 * k; omega, by show 9 * k < (2147483648 : Int); omega⟩ ?_
          refine w_add ⟨by show (-2147483648 : Int) ≤ 4 + (9 * k); omega, by show 4 + (9 * k) < (2147483648 : Int); omega⟩ ?_
          refine w_iln rfl ?_
          refine w_add ⟨by show (-2147483648 : Int) ≤ (4 + (9 * k)) + 0; omega, by show (4 + (9 * k)) + 0 < (2147483648 : Int); omega⟩ ?_
          refine w_iald (v := (M0.1 s (9 * k + 4).toNat)) gs rfl (by show (0 : Int) ≤ (4 + (9 * k)) + 0; omega) (by show (4 + (9 * k)) + 0 < ((537 : Nat) : Int); omega) ((hC2.sj gr gs).trans (congrArg (M0.1 s) (by show ((4 + (9 * k)) + 0).toNat = (9 * k + 4).toNat; omega))) ?_
          refine w_iret (fun q => by cases q) ?_
          refine w_sub ⟨by show (-2147483648 : Int) ≤ (M0.1 s (mi + 76).toNat) - (M0.1 s (9 * k + 4).toNat); omega, by show (M0.1 s (mi + 76).toNat) - (M0.1 s (9 * k + 4).toNat) < (2147483648 : Int); omega⟩ ?_
          refine w_goto ?_
          refine w_iret (fun q => by cases q) ?_
          refine w_goto ?_
          refine w_add ⟨by show (-2147483648 : Int) ≤ (HA2 (k + 3 * mi).toNat) + ((M0.1 s (mi + 76).toNat) - (M0.1 s (9 * k + 4).toNat)); omega, by show (HA2 (k + 3 * mi).toNat) + ((M0.1 s (mi + 76).toNat) - (M0.1 s (9 * k + 4).toNat)) < (2147483648 : Int); omega⟩ ?_
          refine w_iast gr.2.2.1 rfl (by decide) (by show (0 : Int) ≤ ((3 * mi) + 3) + k; omega) (by show ((3 * mi) + 3) + k < ((39 : Nat) : Int); omega) ?_
          have hC6 := hC2.h7 (j := (((3 * mi) + 3) + k).toNat) (v := (HA2 (k + 3 * mi).toNat) + ((M0.1 s (mi + 76).toNat) - (M0.1 s (9 * k + 4).toNat))) gr
          refine w_ii rfl ⟨by show (-2147483648 : Int) ≤ k + 1; omega, by show k + 1 < (2147483648 : Int); omega⟩ ?_
          show wz _ _ _ _ [some (.inr (.inr (some m))), some (.inl (M0.1 s 0)), some (.inl best), some (.inl mi), some (.inl (k + 1))] _ _ _ _ _
          refine w_goto ?_
          refine ih (k + 1) _ _ _ _ (by omega) (by omega) hC6 (fun j hj => (rv_up_n (by omega)).trans (h1 j hj)) (fun q hq => ?_) h
          by_cases eq : (q : Int) = k
          · rw [show 3 * mi.toNat + 3 + q = (((3 * mi) + 3) + k).toNat by omega, rv_up_s, show 3 * mi.toNat + q = 3 * mi.toNat + k.toNat by omega, ← eh]
            rw [if_pos (by omega), show q = k.toNat by omega, cs_gain_i k0 m0, if_pos (by omega)]
          · exact (rv_up_n (by omega)).trans (h2 q (by omega))
theorem r_pc {G : mj_G} {M0 : mj_M} {m s : Nat} {w : Nat → Nat} {Q : mj_P} {d : Nat} (gr : cp_GR G w) (br : cp_BR M0 w m) (gm : G m = (1012, 0)) (gs : G s = (51100, 537)) (m6 : M0.2.2 m 6 = some s) (hr : rv_r4 (M0.1 s) 0) (t1 : 1 ≤ M0.1 s 0) (t3 : M0.1 s 0 ≤ 3) {M : mj_M} {TR CO HA PL : Nat → Int} (hC : cr_C w M0 TR CO HA PL M) {best : Int} : ∀ (n : Nat) (i : Int) (PL2 : Nat → Int) (M2 : mj_M) (cb sb : Nat), i + n = 12 → 0 ≤ i → cr_C w M0 TR CO HA PL2 M2 → (∀ j : Nat, (j : Int) < i → PL2 j = TR j) → (∀ (PL2 : Nat → Int) (M2 : mj_M) (v4 : Option mj_V) (cb sb : Nat), cr_C w M0 TR CO HA PL2 M2 → (∀ j, j < 12 → PL2 j = TR j) → wz (d + 2) mt_X12_cheapest.2.2.2.2.1 Q (mt_X12_cheapest.2.2.2.2.1.drop 76) [some (.inr (.inr (some m))), some (.inl (M0.1 s 0)), some (.inl best), some (.inl 12), v4] [] G M2 cb sb) → wz (d + 2) mt_X12_cheapest.2.2.2.2.1 Q (mt_X12_cheapest.2.2.2.2.1.drop 63) [some (.inr (.inr (some m))), some (.inl (M0.1 s 0)), some (.inl best), some (.inl 12), some (.inl i)] [] G M2 cb sb := by
  intro n
  induction n with
  | zero =>
    intro i PL2 M2 cb sb e i0 hC2 h1 h
    refine w_il rfl ?_
    refine w_bp ?_
    refine w_cmge (fun c1 => ?_) (fun c1 => ?_)
    · skip
      exact h PL2 M2 _ _ _ hC2 (fun j hj => h1 j (by omega))
    · exfalso; omega
  | succ n ih =>
    intro i PL2 M2 cb sb e i0 hC2 h1 h
    refine w_il rfl ?_
    refine w_bp ?_
    refine w_cmge (fun c1 => ?_) (fun c1 => ?_)
    · exfalso; omega
    · skip
      refine w_aln rfl ?_
      refine w_gr gm rfl (by decide) rfl (hC2.r (br.2.2.2)) ?_
      refine w_il rfl ?_
      refine w_aln rfl ?_
      refine w_gr gm rfl (by decide) rfl (hC2.r (br.1)) ?_
      refine w_il rfl ?_
      refine w_iald (v := (TR i.toNat)) gr.1 rfl (by show (0 : Int) ≤ i; omega) (by show i < ((13 : Nat) : Int); omega) (hC2.2.2.1 _ (by show i.toNat < 13; omega)) ?_
      refine w_iast gr.2.2.2 rfl (by decide) (by show (0 : Int) ≤ i; omega) (by show i < ((12 : Nat) : Int); omega) ?_
      have hC2 := hC2.h8 (j := i.toNat) (v := (TR i.toNat)) gr
      refine w_ii rfl ⟨by show (-2147483648 : Int) ≤ i + 1; omega, by show i + 1 < (2147483648 : Int); omega⟩ ?_
      show wz _ _ _ _ [some (.inr (.inr (some m))), some (.inl (M0.1 s 0)), some (.inl best), some (.inl 12), some (.inl (i + 1))] _ _ _ _ _
      refine w_goto ?_
      refine ih (i + 1) _ _ _ _ (by omega) (by omega) hC2 (fun j hj => ?_) h
      by_cases ej : (j : Int) = i
      · rw [show j = i.toNat by omega, rv_up_s]
      · exact (rv_up_n (by omega)).trans (h1 j (by omega))
