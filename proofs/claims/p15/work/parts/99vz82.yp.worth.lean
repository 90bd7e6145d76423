/-! ===== worth, must, shores of the reference (laid by a program) ===== -/
/-- the bids of a TOWN taken away; worth -/
def lr_wz (H : Nat → Int) (r : Nat) : Nat → Int := fun j => if r ≤ j ∧ j < r + 12 then 0 else H j
def lr_worth (H : Nat → Int) (z1 : Int) : Int := if 0 ≤ z1 ∧ z1 < H 0 then (Int32.ofInt ((ye_y0 H).1 224) - Int32.ofInt ((ye_y0 (lr_wz H (88 + 12 * z1).toNat)).1 224)).toInt else -10001
/-- the least bid that lets a MONTH; must -/
def lr_mu (H : Nat → Int) (r o : Nat) (n : Int) : ye_T := ye_it (rv_up H r n) (fun _ => 0) (ye_fr (rv_up H r n)) (o + 1)
def lr_mf (H : Nat → Int) (k : Int) (r o : Nat) : Nat → Int → Int
  | 0, _ => -1
  | f + 1, n => if (lr_mu H r o n).2.1 o = k ∧ (lr_mu H r o n).2.2.1 o < 0 then n else lr_mf H k r o f (n + 1)
def lr_must (H : Nat → Int) (z1 z2 : Int) : Int := if (0 ≤ z1 ∧ z1 < H 0) ∧ 0 ≤ z2 ∧ z2 ≤ 11 then lr_mf H z1 (88 + 12 * z1 + z2).toNat z2.toNat 999 1 else -1
def lr_sx (z : Int) (i : Nat) : Int := (Int32.ofInt z + Int32.ofInt (i : Int)).toInt
def lr_sh (H : Nat → Int) (k : Nat) (z : Int) : Nat → Int
  | 0 => 0
  | i + 1 => (Int32.ofInt (lr_sh H k z i) + Int32.ofInt ((ye_yd H (lr_sx z i)).2.2.2.2 k 3)).toInt
theorem lr_sh_s {H : Nat → Int} {k : Nat} {z : Int} {i : Nat} : lr_sh H k z (i + 1) = (Int32.ofInt (lr_sh H k z i) + Int32.ofInt ((ye_yd H (lr_sx z i)).2.2.2.2 k 3)).toInt := rfl
def lr_shores (H : Nat → Int) (z1 z2 z3 : Int) : Int := if (0 ≤ z1 ∧ z1 < H 0) ∧ 1 ≤ z2 ∧ z2 ≤ 100 then lr_sh H z1.toNat z3 z2.toNat else -1
theorem ye_H2.bid {H H' : Nat → Int} (h : ye_H2 H) (e : ∀ j, j < 88 ∨ 184 ≤ j → H' j = H j) (hb : ∀ j, 88 ≤ j → j < 184 → 0 ≤ H' j ∧ H' j ≤ 999) : ye_H2 H' := by
  obtain ⟨⟨h0, h1, h2, h3, hT, hw, hB, hd⟩, hz⟩ := h
  have e0 := e 0 (Or.inl (by decide))
  refine ⟨⟨by rw [e0]; exact h0, by rw [e 1 (Or.inl (by decide))]; exact h1, by rw [e 2 (Or.inl (by decide))]; exact h2, by rw [e 3 (Or.inl (by decide))]; exact h3, fun j j1 j2 => by rw [e j (Or.inl (by omega))]; exact hT j j1 j2, fun j hj => by rw [e (76 + j) (Or.inl (by omega))]; exact hw j hj, fun t j ht hj => hb _ (by omega) (by omega), fun j hj => ?_⟩, fun t ht hn => by rw [e (7 + 9 * t) (Or.inl (by omega))]; rw [e0] at hn; exact hz t ht hn⟩
  have k := hd j hj
  rw [e0, e (184 + 3 * j) (Or.inr (by omega)), e (185 + 3 * j) (Or.inr (by omega)), e (186 + 3 * j) (Or.inr (by omega))]
  exact k
theorem ye_H2.b {H : Nat → Int} (h : ye_H2 H) {j : Nat} (j1 : 88 ≤ j) (j2 : j < 184) : 0 ≤ H j ∧ H j ≤ 999 := by
  have q := h.1.2.2.2.2.2.2.1 ((j - 88) / 12) ((j - 88) % 12) (by omega) (by omega)
  rw [show 88 + 12 * ((j - 88) / 12) + (j - 88) % 12 = j by omega] at q
  exact q
/-- what worth leaves; while it thinks -/
def rq_K2 (s m bf bk : Nat) (M M' : mj_M) : Prop := M'.2 = M.2 ∧ (∀ a, a ≠ s → a ≠ m → a ≠ bf → a ≠ bk → M'.1 a = M.1 a) ∧ (∀ j, j < 537 → M'.1 s j = M.1 s j) ∧ (∀ k, k ≠ 0 → k ≠ 29 → k ≠ 30 → k ≠ 31 → k ≠ 47 → M'.1 m k = M.1 m k)
theorem rq_K.t2 {s m bf bk : Nat} {M M' : mj_M} (h : rq_K s m bf M M') : rq_K2 s m bf bk M M' := ⟨h.1, fun a a1 a2 a3 _ => h.2.1 a a1 a2 a3, h.2.2.1, h.2.2.2⟩
def rq_Mr (s m bf r : Nat) (M M' : mj_M) : Prop := M'.2 = M.2 ∧ (∀ a, a ≠ s → a ≠ m → a ≠ bf → M'.1 a = M.1 a) ∧ (∀ j, j ≠ r → j < 221 ∨ (356 ≤ j ∧ j < 537) → M'.1 s j = M.1 s j) ∧ (∀ k, k ≠ 0 → k ≠ 29 → k ≠ 30 → k ≠ 31 → k ≠ 47 → M'.1 m k = M.1 m k) ∧ (∀ k, k < 135 → M'.1 bf k = M.1 s (221 + k))
theorem r_yw1 {G : mj_G} {M0 : mj_M} {m s bk r : Nat} {Q : mj_P} {k v2 : Int} (gm : G m = (1012, 0)) (gs : G s = (51100, 537)) (gb : G bk = (65100, 12)) (m6 : M0.2.2 m 6 = some s) (m46 : M0.2.2 m 46 = some bk) (k1 : 0 ≤ k) (k2 : k < 8) (hr : r = (88 + 12 * k).toNat) : ∀ (f i : Nat) (M : mj_M) (cb sb : Nat), i + f = 12 → M.2 = M0.2 → (∀ a, a ≠ s → a ≠ bk → M.1 a = M0.1 a) → (∀ j, j < 537 → M.1 s j = if r ≤ j ∧ j < r + i then 0 else M0.1 s j) → (∀ l, l < i → M.1 bk l = M0.1 s (r + l)) → (∀ M' cb sb, M'.2 = M0.2 → (∀ a, a ≠ s → a ≠ bk → M'.1 a = M0.1 a) → (∀ j, j < 537 → M'.1 s j = if r ≤ j ∧ j < r + 12 then 0 else M0.1 s j) → (∀ l, l < 12 → M'.1 bk l = M0.1 s (r + l)) → wz 39 mt_X12_worth.2.2.2.2.1 Q (mt_X12_worth.2.2.2.2.1.drop 45) [some (.inr (.inr (some m))), some (.inl k), some (.inl v2), some (.inl 12), none] [] G M' cb sb) → wz 39 mt_X12_worth.2.2.2.2.1 Q (mt_X12_worth.2.2.2.2.1.drop 21) [some (.inr (.inr (some m))), some (.inl k), some (.inl v2), some (.inl (i : Int)), none] [] G M cb sb := by
  have bs : bk ≠ s := hn_ne gb gs (by decide)
  intro f
  induction f with
  | zero =>
    intro i M cb sb e h2 h1 h3 h4 h
    have e : i = 12 := by omega
    subst e
    refine w_iln rfl ?_
    refine w_bp ?_
    refine w_cmge (fun c => ?_) (fun c => by exfalso; omega)
    exact h M _ _ h2 h1 h3 h4
  | succ f ih =>
    intro i M cb sb e h2 h1 h3 h4 h
    have ti : ((i : Int)).toNat = i := by omega
    have tr : ((88 : Int) + 12 * k + (i : Int)).toNat = r + i := by omega
    refine w_iln rfl ?_
    refine w_bp ?_
    refine w_cmge (fun c => by exfalso; omega) (fun c => ?_)
    refine w_aln rfl ?_
    refine w_gr gm rfl (by decide) rfl (by rw [h2]; exact m46) ?_
    refine w_iln rfl ?_
    refine w_aln rfl ?_
    refine w_iln rfl ?_
    refine w_iln rfl ?_
    refine w_cv (st := [.inl (i : Int), .inr (.inr (some bk))]) rfl gm rfl (Nat.le_of_ble_eq_true rfl) (fun kk h => h) ⟨Nat.le_of_ble_eq_true rfl, ?_⟩
    show wz 38 mt_X12_bidOf.2.2.2.2.1 _ mt_X12_bidOf.2.2.2.2.1 [some (.inr (.inr (some m))), some (.inl k), some (.inl (i : Int))] [] _ _ _ _
    refine w_aln rfl ?_
    refine w_gr gm rfl (by decide) rfl (by rw [h2]; exact m6) ?_
    refine w_bp ?_
    refine w_bp ?_
    refine w_iln rfl ?_
    refine w_mul ⟨by omega, by omega⟩ ?_
    refine w_add ⟨by omega, by omega⟩ ?_
    refine w_iln rfl ?_
    refine w_add ⟨by omega, by omega⟩ ?_
    refine w_iald (v := M0.1 s (r + i)) gs rfl (by omega) (by show (88 : Int) + 12 * k + (i : Int) < ((537 : Nat) : Int); omega) (by rw [tr]; exact (h3 _ (by omega)).trans (if_neg (by omega))) ?_
    refine w_iret (fun q => by cases q) ?_
    refine w_iast gb rfl (by decide) (by omega) (by show (i : Int) < ((12 : Nat) : Int); omega) ?_
    refine w_aln rfl ?_
    refine w_gr gm rfl (by decide) rfl (by show M.2.2 m 6 = _; rw [h2]; exact m6) ?_
    refine w_bp ?_
    refine w_bp ?_
    refine w_iln rfl ?_
    refine w_mul ⟨by omega, by omega⟩ ?_
    refine w_add ⟨by omega, by omega⟩ ?_
    refine w_iln rfl ?_
    refine w_add ⟨by omega, by omega⟩ ?_
    refine w_ic ?_
    refine w_iast gs rfl (by decide) (by omega) (by show (88 : Int) + 12 * k + (i : Int) < ((537 : Nat) : Int); omega) ?_
    refine w_ii rfl ⟨by omega, by omega⟩ ?_
    refine w_goto ?_
    rw [ti, tr]
    refine ih (i + 1) _ _ _ (by omega) h2 (fun a a1 a2 => (wz_c a1).trans ((wz_c a2).trans (h1 a a1 a2))) (fun j hj => ?_) (fun l hl => (congrFun (wz_c bs) l).trans ?_) h
    · by_cases q : j = r + i
      · rw [q, if_pos ⟨by omega, by omega⟩]; exact hn_s
      · refine (hn_n (Or.inr q)).trans ((congrFun (wz_c bs.symm) j).trans ((h3 j hj).trans ?_))
        by_cases c : r ≤ j ∧ j < r + i
        · rw [if_pos c, if_pos ⟨c.1, by omega⟩]
        · rw [if_neg c, if_neg (fun q2 => c ⟨q2.1, by omega⟩)]
    · rcases Nat.lt_or_ge l i with q | q
      · exact (hn_n (Or.inr (by omega))).trans (h4 l q)
      · rw [show l = i by omega]; exact hn_s
theorem r_yw2 {G : mj_G} {M0 : mj_M} {m s bk r : Nat} {Q : mj_P} {k v2 v3 : Int} {H : Nat → Int} (gm : G m = (1012, 0)) (gs : G s = (51100, 537)) (gb : G bk = (65100, 12)) (m6 : M0.2.2 m 6 = some s) (m46 : M0.2.2 m 46 = some bk) (hb : ∀ l, l < 12 → M0.1 bk l = H (r + l)) (k1 : 0 ≤ k) (k2 : k < 8) (hr : r = (88 + 12 * k).toNat) : ∀ (f i : Nat) (M : mj_M) (cb sb : Nat), i + f = 12 → M.2 = M0.2 → (∀ a, a ≠ s → M.1 a = M0.1 a) → (∀ j, j < 537 → M.1 s j = if r ≤ j ∧ j < r + i then H j else M0.1 s j) → (∀ M' cb sb, M'.2 = M0.2 → (∀ a, a ≠ s → M'.1 a = M0.1 a) → (∀ j, j < 537 → M'.1 s j = if r ≤ j ∧ j < r + 12 then H j else M0.1 s j) → wz 39 mt_X12_worth.2.2.2.2.1 Q (mt_X12_worth.2.2.2.2.1.drop 74) [some (.inr (.inr (some m))), some (.inl k), some (.inl v2), some (.inl v3), some (.inl 12)] [] G M' cb sb) → wz 39 mt_X12_worth.2.2.2.2.1 Q (mt_X12_worth.2.2.2.2.1.drop 55) [some (.inr (.inr (some m))), some (.inl k), some (.inl v2), some (.inl v3), some (.inl (i : Int))] [] G M cb sb := by
  have bs : bk ≠ s := hn_ne gb gs (by decide)
  intro f
  induction f with
  | zero =>
    intro i M cb sb e h2 h1 h3 h
    have e : i = 12 := by omega
    subst e
    refine w_il rfl ?_
    refine w_bp ?_
    refine w_cmge (fun c => ?_) (fun c => by exfalso; omega)
    exact h M _ _ h2 h1 h3
  | succ f ih =>
    intro i M cb sb e h2 h1 h3 h
    have ti : ((i : Int)).toNat = i := by omega
    have tr : ((88 : Int) + 12 * k + (i : Int)).toNat = r + i := by omega
    refine w_il rfl ?_
    refine w_bp ?_
    refine w_cmge (fun c => by exfalso; omega) (fun c => ?_)
    refine w_aln rfl ?_
    refine w_gr gm rfl (by decide) rfl (by rw [h2]; exact m6) ?_
    refine w_bp ?_
    refine w_bp ?_
    refine w_iln rfl ?_
    refine w_mul ⟨by omega, by omega⟩ ?_
    refine w_add ⟨by omega, by omega⟩ ?_
    refine w_il rfl ?_
    refine w_add ⟨by omega, by omega⟩ ?_
    refine w_aln rfl ?_
    refine w_gr gm rfl (by decide) rfl (by rw [h2]; exact m46) ?_
    refine w_il rfl ?_
    refine w_iald (v := H (r + i)) gb rfl (by omega) (by show (i : Int) < ((12 : Nat) : Int); omega) (by rw [ti, h1 bk bs]; exact hb i (by omega)) ?_
    refine w_iast gs rfl (by decide) (by omega) (by show (88 : Int) + 12 * k + (i : Int) < ((537 : Nat) : Int); omega) ?_
    refine w_ii rfl ⟨by omega, by omega⟩ ?_
    refine w_goto ?_
    rw [tr]
    refine ih (i + 1) _ _ _ (by omega) h2 (fun a a1 => (wz_c a1).trans (h1 a a1)) (fun j hj => ?_) h
    by_cases q : j = r + i
    · rw [q, if_pos ⟨by omega, by omega⟩]; exact hn_s
    · refine (hn_n (Or.inr q)).trans ((h3 j hj).trans ?_)
      by_cases c : r ≤ j ∧ j < r + i
      · rw [if_pos c, if_pos ⟨c.1, by omega⟩]
      · rw [if_neg c, if_neg (fun q2 => c ⟨q2.1, by omega⟩)]
set_option maxRecDepth 100000 in
theorem r_X12_worthC {G : mj_G} {M : mj_M} {m s bf : Nat} {Q : mj_P} (hL : yq_L G M s m (M.1 s)) (gf : G bf = (64100, 135)) (m45 : M.2.2 m 45 = some bf) (hH : ye_H2 (M.1 s)) {bk : Nat} {z1 : Int} (m46 : M.2.2 m 46 = some bk) (gk : G bk = (65100, 12)) (h : ∀ M1, rq_K2 s m bf bk M M1 → Q (some (.inl (lr_worth (M.1 s) z1))) G M1) : mj_R mj_tab 40 259 [.inr (.inr (some m)), .inl z1] G M Q := by
  have gm := hL.gm
  have gs := hL.gs
  have m6 := hL.m6
  have b0 := hH.1.1
  have nbs : bf ≠ s := hn_ne gf gs (by decide)
  have nbm : bf ≠ m := hn_ne gf gm (by decide)
  have sm : s ≠ m := hL.sm
  have es : (mj_p0 M m 0 0).1 s = M.1 s := wz_c sm
  have hK0 : rq_K s m bf M (mj_p0 M m 0 0) := ⟨rfl, fun a _ a2 _ => wz_c a2, fun j _ => congrFun es j, fun k k0 _ _ _ _ => hn_n (Or.inr k0)⟩
  have nks : bk ≠ s := hn_ne gk gs (by decide)
  have nkm : bk ≠ m := hn_ne gk gm (by decide)
  have nkf : bk ≠ bf := hn_ne gk gf (by decide)
  refine ⟨Nat.le_of_ble_eq_true rfl, ?_⟩
  show wz 39 mt_X12_worth.2.2.2.2.1 Q mt_X12_worth.2.2.2.2.1 [some (.inr (.inr (some m))), some (.inl z1), none, none, none] [] G M _ _
  refine w_aln rfl ?_
  refine w_ic ?_
  refine w_pi gm rfl (by decide) rfl (fun q => by cases q) ?_
  refine w_aln rfl ?_
  refine w_iln rfl ?_
  refine w_cv (st := []) rfl gm rfl (Nat.le_of_ble_eq_true rfl) (fun kk h => h) ⟨Nat.le_of_ble_eq_true rfl, ?_⟩
  show wz (38) mt_X12_isTown.2.2.2.2.1 _ mt_X12_isTown.2.2.2.2.1 [some (.inr (.inr (some m))), some (.inl z1)] [] _ _ _ _
  refine w_iln rfl ?_
  refine w_ic ?_
  refine w_aln rfl ?_
  refine w_gr gm rfl (by decide) rfl (m6) ?_
  refine w_ic ?_
  refine w_iald (v := (M.1 s 0)) gs rfl (by show (0 : Int) ≤ 0; omega) (by show 0 < ((537 : Nat) : Int); omega) ((hn_n (Or.inl (hn_ne gs gm (by decide)))).trans (congrArg (M.1 s) (by show (0 : Int).toNat = 0; omega))) ?_
  refine w_ic ?_
  refine w_sub ⟨by show (-2147483648 : Int) ≤ (M.1 s 0) - 1; omega, by show (M.1 s 0) - 1 < (2147483648 : Int); omega⟩ ?_
  refine w_cs (st := []) rfl (Nat.le_of_ble_eq_true rfl) (fun kk h => h) ⟨Nat.le_of_ble_eq_true rfl, ?_⟩
  show wz (37) mt_X12_isIn.2.2.2.2.1 _ mt_X12_isIn.2.2.2.2.1 [some (.inl z1), some (.inl 0), some (.inl ((M.1 s 0) - 1))] [] _ _ _ _
  refine w_iln rfl ?_
  refine w_iln rfl ?_
  refine w_cmlt (fun c1 => ?_) (fun c1 => ?_)
  · skip
    refine w_ic ?_
    refine w_iret (fun _ => Or.inl rfl) ?_
    refine w_iret (fun _ => Or.inl rfl) ?_
    refine w_ifne (fun c2 => ?_) (fun c2 => ?_)
    · exfalso; omega
    · skip
      refine w_sp ?_
      exact w_iret (fun q => by cases q) (by have q := h _ hK0.t2; unfold lr_worth at q; rw [if_neg (by omega)] at q; exact q)
  · skip
    refine w_iln rfl ?_
    refine w_iln rfl ?_
    refine w_cmgt (fun c3 => ?_) (fun c3 => ?_)
    · skip
      refine w_ic ?_
      refine w_iret (fun _ => Or.inl rfl) ?_
      refine w_iret (fun _ => Or.inl rfl) ?_
      refine w_ifne (fun c4 => ?_) (fun c4 => ?_)
      · exfalso; omega
      · skip
        refine w_sp ?_
        exact w_iret (fun q => by cases q) (by have q := h _ hK0.t2; unfold lr_worth at q; rw [if_neg (by omega)] at q; exact q)
    · skip
      refine w_ic ?_
      refine w_goto ?_
      refine w_iret (fun _ => Or.inr rfl) ?_
      refine w_iret (fun _ => Or.inr rfl) ?_
      refine w_ifne (fun c5 => ?_) (fun c5 => ?_)
      · skip
        refine w_aln rfl ?_
        refine w_cv (st := []) rfl gm rfl (Nat.le_of_ble_eq_true rfl) (fun kk h => h) (r_X12_thinksC (M0 := mj_p0 M m 0 0) (d := 37) gm gs gf m6 m45 (fun M2 t1 t2 t3 => ?_))
        have hM2 : rq_M s m bf M M2 := ⟨t1, fun a a1 a2 a3 => (t2 a a3).trans (wz_c a2), fun j _ => (congrFun (t2 s nbs.symm) j).trans (congrFun es j), fun k k0 _ _ _ _ => (congrFun (t2 m nbm.symm) k).trans (hn_n (Or.inr k0)), fun k hk => (t3 k hk).trans (congrFun es _)⟩
        have e26 : M2.2.2 m 6 = some s := by rw [hM2.1]; exact m6
        refine w_aln rfl ?_
        refine w_ic ?_
        refine w_cv (st := []) rfl gm rfl (Nat.le_of_ble_eq_true rfl) (fun kk h => h) (r_X12_wholeYear0 (d := 34) (hM2.L hL) hH (fun M3 hY => ?_))
        have hM3 := hM2.yr hY nbs nbm
        have e36 : M3.2.2 m 6 = some s := by rw [hM3.1]; exact m6
        have e346 : M3.2.2 m 46 = some bk := by rw [hM3.1]; exact m46
        refine w_aln rfl ?_
        refine w_gr gm rfl (by decide) rfl e36 ?_
        refine w_sp ?_
        refine w_iald (v := (ye_y0 (M.1 s)).1 224) gs rfl (by decide) (by decide) (hY.g (j := 224) (by decide) (by decide)) ?_
        refine w_isn ?_
        refine w_ic ?_
        refine w_isn ?_
        refine r_yw1 (M0 := M3) (r := (88 + 12 * z1).toNat) gm gs gk e36 e346 (by omega) (by omega) rfl 12 0 M3 _ _ (by decide) rfl (fun _ _ _ => rfl) (fun j _ => by rw [if_neg (by omega)]) (fun l hl => absurd hl (Nat.not_lt_zero l)) (fun M4 cb sb g2 g1 g3 g4 => ?_)
        have s4 : ∀ j, j < 221 → M4.1 s j = lr_wz (M.1 s) (88 + 12 * z1).toNat j := fun j hj => (g3 j (by omega)).trans (by rw [hM3.2.2.1 j (Or.inl hj)]; rfl)
        have hL4 : yq_L G M4 s m (lr_wz (M.1 s) (88 + 12 * z1).toNat) := ⟨gm, gs, by rw [g2]; exact e36, s4, (congrFun (g1 m sm.symm nkm.symm) 32).trans ((hM3.2.2.2.1 32 (by decide) (by decide) (by decide) (by decide) (by decide)).trans hL.lk)⟩
        have hH4 : ye_H2 (lr_wz (M.1 s) (88 + 12 * z1).toNat) := hH.bid (fun j hj => if_neg (by omega)) (fun j j1 j2 => by
          by_cases c : (88 + 12 * z1).toNat ≤ j ∧ j < (88 + 12 * z1).toNat + 12
          · rw [show lr_wz (M.1 s) (88 + 12 * z1).toNat j = 0 from if_pos c]; exact ⟨Int.le_refl 0, by decide⟩
          · rw [show lr_wz (M.1 s) (88 + 12 * z1).toNat j = M.1 s j from if_neg c]; exact hH.b j1 j2)
        refine w_aln rfl ?_
        refine w_ic ?_
        refine w_cv (st := []) rfl gm rfl (Nat.le_of_ble_eq_true rfl) (fun kk h => h) (r_X12_wholeYear0 (d := 34) hL4 hH4 (fun M5 hY5 => ?_))
        have e52 : M5.2 = M.2 := hY5.1.trans (g2.trans hM3.1)
        have e56 : M5.2.2 m 6 = some s := by rw [e52]; exact m6
        have e546 : M5.2.2 m 46 = some bk := by rw [e52]; exact m46
        have b5 : ∀ l, l < 12 → M5.1 bk l = M.1 s ((88 + 12 * z1).toNat + l) := fun l hl => (congrFun (hY5.2.1 bk nks nkm) l).trans ((g4 l hl).trans (hM3.2.2.1 _ (Or.inl (by omega))))
        refine w_aln rfl ?_
        refine w_gr gm rfl (by decide) rfl e56 ?_
        refine w_sp ?_
        refine w_iald (v := (ye_y0 (lr_wz (M.1 s) (88 + 12 * z1).toNat)).1 224) gs rfl (by decide) (by decide) (hY5.g (j := 224) (by decide) (by decide)) ?_
        refine w_isn ?_
        refine w_ic ?_
        refine w_is ?_
        refine r_yw2 (M0 := M5) (H := M.1 s) (r := (88 + 12 * z1).toNat) gm gs gk e56 e546 b5 (by omega) (by omega) rfl 12 0 M5 _ _ (by decide) rfl (fun _ _ => rfl) (fun j _ => by rw [if_neg (by omega)]) (fun M6 cb sb q2 q1 q3 => ?_)
        have e62 : M6.2 = M.2 := q2.trans e52
        refine w_aln rfl ?_
        refine w_cv (st := []) rfl gm rfl (Nat.le_of_ble_eq_true rfl) (fun kk h => h) (r_X12_forgetsC (M0 := M6) (d := 37) gm gs gf (by rw [e62]; exact m6) (by rw [e62]; exact m45) (fun M7 f1 f2 f3 => ?_))
        refine w_iln rfl ?_
        refine w_iln rfl ?_
        refine w_subw ?_
        intro z hz ez
        have hK : rq_K2 s m bf bk M M7 := by
          refine ⟨f1.trans e62, fun a a1 a2 a3 a4 => (f2 a a1).trans ((q1 a a1).trans ((hY5.2.1 a a1 a2).trans ((g1 a a1 a4).trans (hM3.2.1 a a1 a2 a3)))), fun j hj => ?_, fun k k0 k1 k2 k3 k4 => (congrFun (f2 m sm.symm) k).trans ((congrFun (q1 m sm.symm) k).trans ((hY5.2.2.1 k k1 k2 k3 k4).trans ((congrFun (g1 m sm.symm nkm.symm) k).trans (hM3.2.2.2.1 k k0 k1 k2 k3 k4))))⟩
          by_cases c : 221 ≤ j ∧ j < 356
          · rw [(f3 j hj).1 c, q1 bf nbs, hY5.2.1 bf nbs nbm, g1 bf nbs nkf.symm, hM3.2.2.2.2 (j - 221) (by omega), show 221 + (j - 221) = j by omega]
          · rw [(f3 j hj).2 (by omega), q3 j hj]
            by_cases c2 : (88 + 12 * z1).toNat ≤ j ∧ j < (88 + 12 * z1).toNat + 12
            · rw [if_pos c2]
            · rw [if_neg c2, hY5.2.2.2.1 j (by omega), g3 j hj, if_neg c2]
              exact hM3.2.2.1 j (by omega)
        refine w_iret (fun q => by cases q) ?_
        have q := h M7 hK
        unfold lr_worth at q
        rw [if_pos ⟨by omega, by omega⟩] at q
        rw [ez]; exact q
      · exfalso; omega
theorem r_ym1 {G : mj_G} {m s r : Nat} {Q : mj_P} {k o wa : Int} {H : Nat → Int} (k1 : 0 ≤ k) (k2 : k < 8) (o1 : 0 ≤ o) (o2 : o < 12) (hr : r = (88 + 12 * k + o).toNat) {M0 : mj_M} {g n : Int} (hL : yq_L G M0 s m H) (hH : ye_H2 H) : ∀ (f i : Nat) (M : mj_M) (cb sb : Nat), (i : Int) + f = o + 1 → yq_T s m M0 (ye_it H (fun _ => 0) (ye_fr H) i) M → (∀ M' v6 cb sb, yq_T s m M0 (ye_it H (fun _ => 0) (ye_fr H) (o.toNat + 1)) M' → wz 39 mt_X12_must.2.2.2.2.1 Q (mt_X12_must.2.2.2.2.1.drop 51) [some (.inr (.inr (some m))), some (.inl k), some (.inl o), some (.inl wa), some (.inl g), some (.inl n), v6] [] G M' cb sb) → wz 39 mt_X12_must.2.2.2.2.1 Q (mt_X12_must.2.2.2.2.1.drop 43) [some (.inr (.inr (some m))), some (.inl k), some (.inl o), some (.inl wa), some (.inl g), some (.inl n), some (.inl (i : Int))] [] G M cb sb := by
  have hf := ye_fr_ok hH
  intro f
  induction f with
  | zero =>
    intro i M cb sb e hT h
    obtain rfl : i = o.toNat + 1 := by omega
    refine w_il rfl ?_
    refine w_iln rfl ?_
    refine w_cmgt (fun c => ?_) (fun c => by exfalso; omega)
    exact h M _ _ _ hT
  | succ f ih =>
    intro i M cb sb e hT h
    have hok := ye_it_ok hH.1 hf.1 (xs := fun _ => 0) (fun _ => ⟨Int.le_refl 0, by decide⟩) i (by rw [hf.2]; omega)
    refine w_il rfl ?_
    refine w_iln rfl ?_
    refine w_cmgt (fun c => by exfalso; omega) (fun c => ?_)
    refine w_aln rfl ?_
    refine w_ic ?_
    refine w_cv (st := []) rfl hL.gm rfl (Nat.le_of_ble_eq_true rfl) (fun kk h => h) (r_monthT (d := 35) hL hT hH.1 hok.1 (by rw [hok.2, hf.2]; omega) ⟨Int.le_refl 0, by decide⟩ (fun M1 hT1 => ?_))
    refine w_ii rfl ⟨by omega, by omega⟩ ?_
    refine w_goto ?_
    exact ih (i + 1) M1 _ _ (by omega) hT1 h
theorem rq_Mr.up {G : mj_G} {M0 M : mj_M} {m s bf r : Nat} {n : Int} (h : rq_Mr s m bf r M0 M) (nbs : bf ≠ s) (sm : s ≠ m) (hr : r < 221) : rq_Mr s m bf r M0 (mj_p0 M s r n) := ⟨h.1, fun a a1 a2 a3 => (wz_c a1).trans (h.2.1 a a1 a2 a3), fun j j1 j2 => (hn_n (Or.inr j1)).trans (h.2.2.1 j j1 j2), fun k k0 k1 k2 k3 k4 => (congrFun (wz_c sm.symm) k).trans (h.2.2.2.1 k k0 k1 k2 k3 k4), fun k hk => (congrFun (wz_c nbs) k).trans (h.2.2.2.2 k hk)⟩
theorem r_ym2 {G : mj_G} {m s r : Nat} {Q : mj_P} {k o wa : Int} {H : Nat → Int} (k1 : 0 ≤ k) (k2 : k < 8) (o1 : 0 ≤ o) (o2 : o < 12) (hr : r = (88 + 12 * k + o).toNat) {M0 : mj_M} {bf : Nat} {A : Int} (hL : yq_L G M0 s m H) (hHs : M0.1 s = H) (gf : G bf = (64100, 135)) (m45 : M0.2.2 m 45 = some bf) (hH : ye_H2 H) (hw : wa = H r) (hQ : ∀ M', rq_K s m bf M0 M' → Q (some (.inl A)) G M') : ∀ (f : Nat) (n : Int) (M : mj_M) (v6 : Option mj_V) (cb sb : Nat), n + f = 1000 → 1 ≤ n → lr_mf H k r o.toNat f n = A → rq_Mr s m bf r M0 M → wz 39 mt_X12_must.2.2.2.2.1 Q (mt_X12_must.2.2.2.2.1.drop 23) [some (.inr (.inr (some m))), some (.inl k), some (.inl o), some (.inl wa), some (.inl (-1)), some (.inl n), v6] [] G M cb sb := by
  have tr : ((88 : Int) + 12 * k + o).toNat = r := by omega
  have gm := hL.gm
  have gs := hL.gs
  have m6 := hL.m6
  have sm := hL.sm
  have nbs : bf ≠ s := hn_ne gf gs (by decide)
  have nbm : bf ≠ m := hn_ne gf gm (by decide)
  have r1 : 88 ≤ r ∧ r < 184 := by omega
  have fin : ∀ (n g : Int) (M : mj_M) (v6 : Option mj_V) (cb sb : Nat), g = A → rq_Mr s m bf r M0 M → wz 39 mt_X12_must.2.2.2.2.1 Q (mt_X12_must.2.2.2.2.1.drop 76) [some (.inr (.inr (some m))), some (.inl k), some (.inl o), some (.inl wa), some (.inl g), some (.inl n), v6] [] G M cb sb := by
    intro n g M v6 cb sb eg h1
    refine w_aln rfl ?_
    refine w_gr gm rfl (by decide) rfl (by rw [h1.1]; exact m6) ?_
    refine w_bp ?_
    refine w_bp ?_
    refine w_iln rfl ?_
    refine w_mul ⟨by omega, by omega⟩ ?_
    refine w_add ⟨by omega, by omega⟩ ?_
    refine w_iln rfl ?_
    refine w_add ⟨by omega, by omega⟩ ?_
    refine w_iln rfl ?_
    refine w_iast gs rfl (by decide) (by omega) (by show (88 : Int) + 12 * k + o < ((537 : Nat) : Int); omega) ?_
    rw [tr]
    have h2 := h1.up (n := wa) (G := G) nbs sm (by omega)
    refine w_aln rfl ?_
    refine w_cv (st := []) rfl gm rfl (Nat.le_of_ble_eq_true rfl) (fun kk h => h) (r_X12_forgetsC (d := 37) gm gs gf (by rw [h2.1]; exact m6) (by rw [h2.1]; exact m45) (fun M1 f1 f2 f3 => ?_))
    refine w_il rfl ?_
    refine w_iret (fun q => by cases q) ?_
    rw [eg]
    refine hQ M1 ⟨f1.trans h2.1, fun a a1 a2 a3 => (f2 a a1).trans (h2.2.1 a a1 a2 a3), fun j hj => ?_, fun k k0 k1 k2 k3 k4 => (congrFun (f2 m sm.symm) k).trans (h2.2.2.2.1 k k0 k1 k2 k3 k4)⟩
    by_cases c : 221 ≤ j ∧ j < 356
    · rw [(f3 j hj).1 c, h2.2.2.2.2 (j - 221) (by omega), show 221 + (j - 221) = j by omega]
    · rw [(f3 j hj).2 (by omega)]
      by_cases c2 : j = r
      · rw [c2, hHs, ← hw]; exact hn_s
      · exact h2.2.2.1 j c2 (by omega)
  have ex : ∀ (n g : Int) (M : mj_M) (v6 : Option mj_V) (cb sb : Nat), 0 ≤ g → g = A → rq_Mr s m bf r M0 M → wz 39 mt_X12_must.2.2.2.2.1 Q (mt_X12_must.2.2.2.2.1.drop 23) [some (.inr (.inr (some m))), some (.inl k), some (.inl o), some (.inl wa), some (.inl g), some (.inl n), v6] [] G M cb sb := by
    intro n g M v6 cb sb g0 eg h1
    refine w_il rfl ?_
    refine w_sp ?_
    refine w_cmge (fun c => fin n g M v6 _ _ eg h1) (fun c => ?_)
    refine w_il rfl ?_
    exact w_ifge (fun c2 => fin n g M v6 _ _ eg h1) (fun c2 => by exfalso; omega)
  intro f
  induction f with
  | zero =>
    intro n M v6 cb sb e n1 hA h1
    refine w_il rfl ?_
    refine w_sp ?_
    refine w_cmge (fun c => ?_) (fun c => by exfalso; omega)
    exact fin n (-1) M v6 _ _ hA h1
  | succ f ih =>
    intro n M v6 cb sb e n1 hA h1
    refine w_il rfl ?_
    refine w_sp ?_
    refine w_cmge (fun c => by exfalso; omega) (fun c => ?_)
    refine w_il rfl ?_
    refine w_ifge (fun c2 => absurd c2 (by decide)) (fun c2 => ?_)
    refine w_aln rfl ?_
    refine w_gr gm rfl (by decide) rfl (by rw [h1.1]; exact m6) ?_
    refine w_bp ?_
    refine w_bp ?_
    refine w_iln rfl ?_
    refine w_mul ⟨by omega, by omega⟩ ?_
    refine w_add ⟨by omega, by omega⟩ ?_
    refine w_iln rfl ?_
    refine w_add ⟨by omega, by omega⟩ ?_
    refine w_il rfl ?_
    refine w_iast gs rfl (by decide) (by omega) (by show (88 : Int) + 12 * k + o < ((537 : Nat) : Int); omega) ?_
    rw [tr]
    have h2 := h1.up (n := n) (G := G) nbs sm (by omega)
    have s2 : ∀ j, j < 221 → (mj_p0 M s r n).1 s j = rv_up H r n j := fun j hj => by
      by_cases c : j = r
      · rw [c, rv_up_s]; exact hn_s
      · rw [rv_up_n c]; exact (hn_n (Or.inr c)).trans ((h1.2.2.1 j c (Or.inl hj)).trans (by rw [hHs]))
    have hHn : ye_H2 (rv_up H r n) := hH.bid (fun j hj => rv_up_n (by omega)) (fun j j1 j2 => by
      by_cases c : j = r
      · rw [c, rv_up_s]; omega
      · rw [rv_up_n c]; exact hH.b j1 j2)
    refine w_aln rfl ?_
    refine w_cv (st := []) rfl gm rfl (Nat.le_of_ble_eq_true rfl) (fun kk h => h) (r_X12_beginsC (d := 37) gm gs (by rw [h2.1]; exact m6) s2 hHn.1.1 hHn.2 (fun M1 hZ => ?_))
    have hT1 := hZ.T (m := m)
    obtain ⟨z1, z2, z3, -⟩ := hZ
    have hL1 : yq_L G M1 s m (rv_up H r n) := ⟨gm, gs, by rw [z1, h2.1]; exact m6, fun j hj => (z3 j (Or.inl hj)).trans (s2 j hj), (congrFun (z2 m sm.symm) 32).trans ((h2.2.2.2.1 32 (by decide) (by decide) (by decide) (by decide) (by decide)).trans hL.lk)⟩
    refine w_ic ?_
    refine w_is ?_
    refine r_ym1 k1 k2 o1 o2 hr hL1 hHn (o + 1).toNat 0 M1 _ _ (by omega) hT1 (fun M2 v6 cb sb hT2 => ?_)
    have h3 : rq_Mr s m bf r M0 M2 ∧ M2.1 s ((320 : Int) + 3 * o).toNat = (lr_mu H r o.toNat n).2.1 o.toNat ∧ M2.1 s ((320 : Int) + 3 * o + 1).toNat = (lr_mu H r o.toNat n).2.2.1 o.toNat := by
      obtain ⟨L, O, P, c1, c2, c3, -, c5, c6, c7, c8⟩ := hT2
      obtain ⟨q1, q2, -⟩ := c7 o.toNat (by omega)
      refine ⟨⟨c1.trans (z1.trans h2.1), fun a a1 a2 a3 => (c2 a a1 a2).trans ((z2 a a1).trans (h2.2.1 a a1 a2 a3)), fun j j1 j2 => (c5 j (by omega)).trans ((z3 j (by omega)).trans (h2.2.2.1 j j1 j2)), fun k k0 k1 k2 k3 k4 => (c3 k k1 k2 k3).trans ((congrFun (z2 m sm.symm) k).trans (h2.2.2.2.1 k k0 k1 k2 k3 k4)), fun k hk => (congrFun (c2 bf nbs nbm) k).trans ((congrFun (z2 bf nbs) k).trans (h2.2.2.2.2 k hk))⟩, ?_, ?_⟩
      · rw [show ((320 : Int) + 3 * o).toNat = 320 + 3 * o.toNat by omega]; exact q1
      · rw [show ((320 : Int) + 3 * o + 1).toNat = 321 + 3 * o.toNat by omega]; exact q2
    obtain ⟨h3, v320, v321⟩ := h3
    refine w_aln rfl ?_
    refine w_gr gm rfl (by decide) rfl (by rw [h3.1]; exact m6) ?_
    refine w_sp ?_
    refine w_ic ?_
    refine w_iln rfl ?_
    refine w_mul ⟨by omega, by omega⟩ ?_
    refine w_add ⟨by omega, by omega⟩ ?_
    refine w_iald (v := (lr_mu H r o.toNat n).2.1 o.toNat) gs rfl (by omega) (by show (320 : Int) + 3 * o < ((537 : Nat) : Int); omega) v320 ?_
    refine w_iln rfl ?_
    refine w_cmne (fun c3 => ?_) (fun c3 => ?_)
    · refine w_ii rfl ⟨by omega, by omega⟩ ?_
      refine w_goto ?_
      exact ih (n + 1) M2 _ _ _ (by omega) (by omega) ((if_neg (fun q => c3 q.1)).symm.trans hA) h3
    · refine w_aln rfl ?_
      refine w_gr gm rfl (by decide) rfl (by rw [h3.1]; exact m6) ?_
      refine w_sp ?_
      refine w_ic ?_
      refine w_iln rfl ?_
      refine w_mul ⟨by omega, by omega⟩ ?_
      refine w_add ⟨by omega, by omega⟩ ?_
      refine w_ic ?_
      refine w_add ⟨by omega, by omega⟩ ?_
      refine w_iald (v := (lr_mu H r o.toNat n).2.2.1 o.toNat) gs rfl (by omega) (by show (320 : Int) + 3 * o + 1 < ((537 : Nat) : Int); omega) v321 ?_
      refine w_ifge (fun c4 => ?_) (fun c4 => ?_)
      · refine w_ii rfl ⟨by omega, by omega⟩ ?_
        refine w_goto ?_
        exact ih (n + 1) M2 _ _ _ (by omega) (by omega) ((if_neg (fun q => by have := q.2; omega)).symm.trans hA) h3
      · refine w_il rfl ?_
        refine w_is ?_
        refine w_ii rfl ⟨by omega, by omega⟩ ?_
        refine w_goto ?_
        exact ex (n + 1) n M2 _ _ _ (by omega) ((if_pos ⟨c3, c4⟩).symm.trans hA) h3
set_option maxRecDepth 100000 in
theorem r_X12_mustC {G : mj_G} {M : mj_M} {m s bf : Nat} {Q : mj_P} (hL : yq_L G M s m (M.1 s)) (gf : G bf = (64100, 135)) (m45 : M.2.2 m 45 = some bf) (hH : ye_H2 (M.1 s)) {z1 z2 : Int} (h : ∀ M1, rq_K s m bf M M1 → Q (some (.inl (lr_must (M.1 s) z1 z2))) G M1) : mj_R mj_tab 40 215 [.inr (.inr (some m)), .inl z1, .inl z2] G M Q := by
  have gm := hL.gm
  have gs := hL.gs
  have m6 := hL.m6
  have b0 := hH.1.1
  have nbs : bf ≠ s := hn_ne gf gs (by decide)
  have nbm : bf ≠ m := hn_ne gf gm (by decide)
  have sm : s ≠ m := hL.sm
  have es : (mj_p0 M m 0 0).1 s = M.1 s := wz_c sm
  have hK0 : rq_K s m bf M (mj_p0 M m 0 0) := ⟨rfl, fun a _ a2 _ => wz_c a2, fun j _ => congrFun es j, fun k k0 _ _ _ _ => hn_n (Or.inr k0)⟩
  refine ⟨Nat.le_of_ble_eq_true rfl, ?_⟩
  show wz 39 mt_X12_must.2.2.2.2.1 Q mt_X12_must.2.2.2.2.1 [some (.inr (.inr (some m))), some (.inl z1), some (.inl z2), none, none, none, none] [] G M _ _
  refine w_aln rfl ?_
  refine w_ic ?_
  refine w_pi gm rfl (by decide) rfl (fun q => by cases q) ?_
  refine w_aln rfl ?_
  refine w_iln rfl ?_
  refine w_cv (st := []) rfl gm rfl (Nat.le_of_ble_eq_true rfl) (fun kk h => h) ⟨Nat.le_of_ble_eq_true rfl, ?_⟩
  show wz (38) mt_X12_isTown.2.2.2.2.1 _ mt_X12_isTown.2.2.2.2.1 [some (.inr (.inr (some m))), some (.inl z1)] [] _ _ _ _
  refine w_iln rfl ?_
  refine w_ic ?_
  refine w_aln rfl ?_
  refine w_gr gm rfl (by decide) rfl (m6) ?_
  refine w_ic ?_
  refine w_iald (v := (M.1 s 0)) gs rfl (by show (0 : Int) ≤ 0; omega) (by show 0 < ((537 : Nat) : Int); omega) ((hn_n (Or.inl (hn_ne gs gm (by decide)))).trans (congrArg (M.1 s) (by show (0 : Int).toNat = 0; omega))) ?_
  refine w_ic ?_
  refine w_sub ⟨by show (-2147483648 : Int) ≤ (M.1 s 0) - 1; omega, by show (M.1 s 0) - 1 < (2147483648 : Int); omega⟩ ?_
  refine w_cs (st := []) rfl (Nat.le_of_ble_eq_true rfl) (fun kk h => h) ⟨Nat.le_of_ble_eq_true rfl, ?_⟩
  show wz (37) mt_X12_isIn.2.2.2.2.1 _ mt_X12_isIn.2.2.2.2.1 [some (.inl z1), some (.inl 0), some (.inl ((M.1 s 0) - 1))] [] _ _ _ _
  refine w_iln rfl ?_
  refine w_iln rfl ?_
  refine w_cmlt (fun c1 => ?_) (fun c1 => ?_)
  · skip
    refine w_ic ?_
    refine w_iret (fun _ => Or.inl rfl) ?_
    refine w_iret (fun _ => Or.inl rfl) ?_
    refine w_ifeq (fun c2 => ?_) (fun c2 => ?_)
    · skip
      refine w_ic ?_
      exact w_iret (fun q => by cases q) (by have q := h _ hK0; unfold lr_must at q; rw [if_neg (by omega)] at q; exact q)
    · exfalso; omega
  · skip
    refine w_iln rfl ?_
    refine w_iln rfl ?_
    refine w_cmgt (fun c3 => ?_) (fun c3 => ?_)
    · skip
      refine w_ic ?_
      refine w_iret (fun _ => Or.inl rfl) ?_
      refine w_iret (fun _ => Or.inl rfl) ?_
      refine w_ifeq (fun c4 => ?_) (fun c4 => ?_)
      · skip
        refine w_ic ?_
        exact w_iret (fun q => by cases q) (by have q := h _ hK0; unfold lr_must at q; rw [if_neg (by omega)] at q; exact q)
      · exfalso; omega
    · skip
      refine w_ic ?_
      refine w_goto ?_
      refine w_iret (fun _ => Or.inr rfl) ?_
      refine w_iret (fun _ => Or.inr rfl) ?_
      refine w_ifeq (fun c5 => ?_) (fun c5 => ?_)
      · exfalso; omega
      · skip
        refine w_iln rfl ?_
        refine w_cs (st := []) rfl (Nat.le_of_ble_eq_true rfl) (fun kk h => h) ⟨Nat.le_of_ble_eq_true rfl, ?_⟩
        show wz (38) mt_X12_isMonth.2.2.2.2.1 _ mt_X12_isMonth.2.2.2.2.1 [some (.inl z2)] [] _ _ _ _
        refine w_iln rfl ?_
        refine w_ic ?_
        refine w_bp ?_
        refine w_cs (st := []) rfl (Nat.le_of_ble_eq_true rfl) (fun kk h => h) ⟨Nat.le_of_ble_eq_true rfl, ?_⟩
        show wz (37) mt_X12_isIn.2.2.2.2.1 _ mt_X12_isIn.2.2.2.2.1 [some (.inl z2), some (.inl 0), some (.inl 11)] [] _ _ _ _
        refine w_iln rfl ?_
        refine w_iln rfl ?_
        refine w_cmlt (fun c6 => ?_) (fun c6 => ?_)
        · skip
          refine w_ic ?_
          refine w_iret (fun _ => Or.inl rfl) ?_
          refine w_iret (fun _ => Or.inl rfl) ?_
          refine w_ifne (fun c7 => ?_) (fun c7 => ?_)
          · exfalso; omega
          · skip
            refine w_ic ?_
            exact w_iret (fun q => by cases q) (by have q := h _ hK0; unfold lr_must at q; rw [if_neg (by omega)] at q; exact q)
        · skip
          refine w_iln rfl ?_
          refine w_iln rfl ?_
          refine w_cmgt (fun c8 => ?_) (fun c8 => ?_)
          · skip
            refine w_ic ?_
            refine w_iret (fun _ => Or.inl rfl) ?_
            refine w_iret (fun _ => Or.inl rfl) ?_
            refine w_ifne (fun c9 => ?_) (fun c9 => ?_)
            · exfalso; omega
            · skip
              refine w_ic ?_
              exact w_iret (fun q => by cases q) (by have q := h _ hK0; unfold lr_must at q; rw [if_neg (by omega)] at q; exact q)
          · skip
            refine w_ic ?_
            refine w_goto ?_
            refine w_iret (fun _ => Or.inr rfl) ?_
            refine w_iret (fun _ => Or.inr rfl) ?_
            refine w_ifne (fun c10 => ?_) (fun c10 => ?_)
            · skip
              refine w_aln rfl ?_
              refine w_cv (st := []) rfl gm rfl (Nat.le_of_ble_eq_true rfl) (fun kk h => h) (r_X12_thinksC (M0 := mj_p0 M m 0 0) (d := 37) gm gs gf m6 m45 (fun M2 t1 t2 t3 => ?_))
              have hM2 : rq_M s m bf M M2 := ⟨t1, fun a a1 a2 a3 => (t2 a a3).trans (wz_c a2), fun j _ => (congrFun (t2 s nbs.symm) j).trans (congrFun es j), fun k k0 _ _ _ _ => (congrFun (t2 m nbm.symm) k).trans (hn_n (Or.inr k0)), fun k hk => (t3 k hk).trans (congrFun es _)⟩
              have e26 : M2.2.2 m 6 = some s := by rw [hM2.1]; exact m6
              refine w_aln rfl ?_
              refine w_iln rfl ?_
              refine w_iln rfl ?_
              refine w_cv (st := []) rfl gm rfl (Nat.le_of_ble_eq_true rfl) (fun kk h => h) ⟨Nat.le_of_ble_eq_true rfl, ?_⟩
              show wz 38 mt_X12_bidOf.2.2.2.2.1 _ mt_X12_bidOf.2.2.2.2.1 [some (.inr (.inr (some m))), some (.inl z1), some (.inl z2)] [] _ _ _ _
              refine w_aln rfl ?_
              refine w_gr gm rfl (by decide) rfl e26 ?_
              refine w_bp ?_
              refine w_bp ?_
              refine w_iln rfl ?_
              refine w_mul ⟨by omega, by omega⟩ ?_
              refine w_add ⟨by omega, by omega⟩ ?_
              refine w_iln rfl ?_
              refine w_add ⟨by omega, by omega⟩ ?_
              refine w_iald (v := M.1 s (88 + 12 * z1 + z2).toNat) gs rfl (by omega) (by show (88 : Int) + 12 * z1 + z2 < ((537 : Nat) : Int); omega) (hM2.2.2.1 _ (Or.inl (by omega))) ?_
              refine w_iret (fun q => by cases q) ?_
              refine w_isn ?_
              refine w_ic ?_
              refine w_is ?_
              refine w_ic ?_
              refine w_is ?_
              have q := h
              unfold lr_must at q
              rw [if_pos ⟨⟨by omega, by omega⟩, by omega, by omega⟩] at q
              exact r_ym2 (H := M.1 s) (r := (88 + 12 * z1 + z2).toNat) (by omega) (by omega) (by omega) (by omega) rfl hL rfl gf m45 hH rfl q 999 1 M2 none _ _ (by decide) (by decide) rfl ⟨hM2.1, hM2.2.1, fun j _ j2 => hM2.2.2.1 j j2, hM2.2.2.2.1, hM2.2.2.2.2⟩
            · exfalso; omega
theorem r_ysh {G : mj_G} {M0 : mj_M} {m s bf : Nat} {Q : mj_P} {k n z : Int} {H : Nat → Int} (hL : yq_L G M0 s m H) (gf : G bf = (64100, 135)) (hH : ye_H2 H) (k1 : 0 ≤ k) (k2 : k < 8) (n1 : 1 ≤ n) (n2 : n ≤ 100) : ∀ (f i : Nat) (M : mj_M) (cb sb : Nat), (i : Int) + f = n → rq_M s m bf M0 M → (∀ M' cb sb, rq_M s m bf M0 M' → wz 39 mt_X12_shores.2.2.2.2.1 Q (mt_X12_shores.2.2.2.2.1.drop 40) [some (.inr (.inr (some m))), some (.inl k), some (.inl n), some (.inl z), some (.inl (lr_sh H k.toNat z n.toNat)), some (.inl n)] [] G M' cb sb) → wz 39 mt_X12_shores.2.2.2.2.1 Q (mt_X12_shores.2.2.2.2.1.drop 20) [some (.inr (.inr (some m))), some (.inl k), some (.inl n), some (.inl z), some (.inl (lr_sh H k.toNat z i)), some (.inl (i : Int))] [] G M cb sb := by
  have gm := hL.gm
  have gs := hL.gs
  have m6 := hL.m6
  have sm := hL.sm
  have nbs : bf ≠ s := hn_ne gf gs (by decide)
  have nbm : bf ≠ m := hn_ne gf gm (by decide)
  intro f
  induction f with
  | zero =>
    intro i M cb sb e hM h
    obtain rfl : n = (i : Int) := by omega
    refine w_il rfl ?_
    refine w_iln rfl ?_
    refine w_cmge (fun c => ?_) (fun c => by exfalso; omega)
    exact h M _ _ hM
  | succ f ih =>
    intro i M cb sb e hM h
    refine w_il rfl ?_
    refine w_iln rfl ?_
    refine w_cmge (fun c => by exfalso; omega) (fun c => ?_)
    refine w_aln rfl ?_
    refine w_iln rfl ?_
    refine w_il rfl ?_
    refine w_addw ?_
    intro x hx ex
    rw [show x = lr_sx z i from ex]
    refine w_pi gm rfl (by decide) rfl (fun q => by cases q) ?_
    have hM1 : rq_M s m bf M0 (mj_p0 M m 47 (lr_sx z i)) := ⟨hM.1, fun a a1 a2 a3 => (wz_c a2).trans (hM.2.1 a a1 a2 a3), fun j hj => (congrFun (wz_c sm) j).trans (hM.2.2.1 j hj), fun k k0 k1 k2 k3 k4 => (hn_n (Or.inr k4)).trans (hM.2.2.2.1 k k0 k1 k2 k3 k4), fun k hk => (congrFun (wz_c nbm) k).trans (hM.2.2.2.2 k hk)⟩
    refine w_aln rfl ?_
    refine w_ic ?_
    refine w_cv (st := []) rfl gm rfl (Nat.le_of_ble_eq_true rfl) (fun kk h => h) (r_X12_wholeYear1 (d := 34) (hM1.L hL) hH hn_s (fun M2 hY => ?_))
    have hM2 := hM1.yr hY nbs nbm
    refine w_il rfl ?_
    refine w_aln rfl ?_
    refine w_iln rfl ?_
    refine w_ic ?_
    refine w_cv (st := [.inl (lr_sh H k.toNat z i)]) rfl gm rfl (Nat.le_of_ble_eq_true rfl) (fun kk h => h) ⟨Nat.le_of_ble_eq_true rfl, ?_⟩
    show wz 38 mt_X12_of.2.2.2.2.1 _ mt_X12_of.2.2.2.2.1 [some (.inr (.inr (some m))), some (.inl k), some (.inl 3)] [] _ _ _ _
    refine w_aln rfl ?_
    refine w_gr gm rfl (by decide) rfl (by rw [hM2.1]; exact m6) ?_
    refine w_sp ?_
    refine w_bp ?_
    refine w_iln rfl ?_
    refine w_mul ⟨by omega, by omega⟩ ?_
    refine w_add ⟨by omega, by omega⟩ ?_
    refine w_iln rfl ?_
    refine w_add ⟨by omega, by omega⟩ ?_
    refine w_iald (v := (ye_yd H (lr_sx z i)).2.2.2.2 k.toNat 3) gs rfl (by omega) (by show (232 : Int) + 11 * k + 3 < ((537 : Nat) : Int); omega) (hY.R (t := k.toNat) (w := 3) (by omega) (by omega) (by decide)) ?_
    refine w_iret (fun q => by cases q) ?_
    refine w_addw ?_
    intro y hy ey
    rw [show y = lr_sh H k.toNat z (i + 1) from ey.trans lr_sh_s.symm]
    refine w_is ?_
    refine w_ii rfl ⟨by omega, by omega⟩ ?_
    refine w_goto ?_
    exact ih (i + 1) M2 _ _ (by omega) hM2 h
set_option maxRecDepth 100000 in
theorem r_X12_shoresC {G : mj_G} {M : mj_M} {m s bf : Nat} {Q : mj_P} (hL : yq_L G M s m (M.1 s)) (gf : G bf = (64100, 135)) (m45 : M.2.2 m 45 = some bf) (hH : ye_H2 (M.1 s)) {z1 z2 z3 : Int} (h : ∀ M1, rq_K s m bf M M1 → Q (some (.inl (lr_shores (M.1 s) z1 z2 z3))) G M1) : mj_R mj_tab 40 240 [.inr (.inr (some m)), .inl z1, .inl z2, .inl z3] G M Q := by
  have gm := hL.gm
  have gs := hL.gs
  have m6 := hL.m6
  have b0 := hH.1.1
  have nbs : bf ≠ s := hn_ne gf gs (by decide)
  have nbm : bf ≠ m := hn_ne gf gm (by decide)
  have sm : s ≠ m := hL.sm
  have es : (mj_p0 M m 0 0).1 s = M.1 s := wz_c sm
  have hK0 : rq_K s m bf M (mj_p0 M m 0 0) := ⟨rfl, fun a _ a2 _ => wz_c a2, fun j _ => congrFun es j, fun k k0 _ _ _ _ => hn_n (Or.inr k0)⟩
  refine ⟨Nat.le_of_ble_eq_true rfl, ?_⟩
  show wz 39 mt_X12_shores.2.2.2.2.1 Q mt_X12_shores.2.2.2.2.1 [some (.inr (.inr (some m))), some (.inl z1), some (.inl z2), some (.inl z3), none, none] [] G M _ _
  refine w_aln rfl ?_
  refine w_ic ?_
  refine w_pi gm rfl (by decide) rfl (fun q => by cases q) ?_
  refine w_aln rfl ?_
  refine w_iln rfl ?_
  refine w_cv (st := []) rfl gm rfl (Nat.le_of_ble_eq_true rfl) (fun kk h => h) ⟨Nat.le_of_ble_eq_true rfl, ?_⟩
  show wz (38) mt_X12_isTown.2.2.2.2.1 _ mt_X12_isTown.2.2.2.2.1 [some (.inr (.inr (some m))), some (.inl z1)] [] _ _ _ _
  refine w_iln rfl ?_
  refine w_ic ?_
  refine w_aln rfl ?_
  refine w_gr gm rfl (by decide) rfl (m6) ?_
  refine w_ic ?_
  refine w_iald (v := (M.1 s 0)) gs rfl (by show (0 : Int) ≤ 0; omega) (by show 0 < ((537 : Nat) : Int); omega) ((hn_n (Or.inl (hn_ne gs gm (by decide)))).trans (congrArg (M.1 s) (by show (0 : Int).toNat = 0; omega))) ?_
  refine w_ic ?_
  refine w_sub ⟨by show (-2147483648 : Int) ≤ (M.1 s 0) - 1; omega, by show (M.1 s 0) - 1 < (2147483648 : Int); omega⟩ ?_
  refine w_cs (st := []) rfl (Nat.le_of_ble_eq_true rfl) (fun kk h => h) ⟨Nat.le_of_ble_eq_true rfl, ?_⟩
  show wz (37) mt_X12_isIn.2.2.2.2.1 _ mt_X12_isIn.2.2.2.2.1 [some (.inl z1), some (.inl 0), some (.inl ((M.1 s 0) - 1))] [] _ _ _ _
  refine w_iln rfl ?_
  refine w_iln rfl ?_
  refine w_cmlt (fun c1 => ?_) (fun c1 => ?_)
  · skip
    refine w_ic ?_
    refine w_iret (fun _ => Or.inl rfl) ?_
    refine w_iret (fun _ => Or.inl rfl) ?_
    refine w_ifeq (fun c2 => ?_) (fun c2 => ?_)
    · skip
      refine w_ic ?_
      exact w_iret (fun q => by cases q) (by have q := h _ hK0; unfold lr_shores at q; rw [if_neg (by omega)] at q; exact q)
    · exfalso; omega
  · skip
    refine w_iln rfl ?_
    refine w_iln rfl ?_
    refine w_cmgt (fun c3 => ?_) (fun c3 => ?_)
    · skip
      refine w_ic ?_
      refine w_iret (fun _ => Or.inl rfl) ?_
      refine w_iret (fun _ => Or.inl rfl) ?_
      refine w_ifeq (fun c4 => ?_) (fun c4 => ?_)
      · skip
        refine w_ic ?_
        exact w_iret (fun q => by cases q) (by have q := h _ hK0; unfold lr_shores at q; rw [if_neg (by omega)] at q; exact q)
      · exfalso; omega
    · skip
      refine w_ic ?_
      refine w_goto ?_
      refine w_iret (fun _ => Or.inr rfl) ?_
      refine w_iret (fun _ => Or.inr rfl) ?_
      refine w_ifeq (fun c5 => ?_) (fun c5 => ?_)
      · exfalso; omega
      · skip
        refine w_iln rfl ?_
        refine w_ic ?_
        refine w_bp ?_
        refine w_cs (st := []) rfl (Nat.le_of_ble_eq_true rfl) (fun kk h => h) ⟨Nat.le_of_ble_eq_true rfl, ?_⟩
        show wz (38) mt_X12_isIn.2.2.2.2.1 _ mt_X12_isIn.2.2.2.2.1 [some (.inl z2), some (.inl 1), some (.inl 100)] [] _ _ _ _
        refine w_iln rfl ?_
        refine w_iln rfl ?_
        refine w_cmlt (fun c6 => ?_) (fun c6 => ?_)
        · skip
          refine w_ic ?_
          refine w_iret (fun _ => Or.inl rfl) ?_
          refine w_ifne (fun c7 => ?_) (fun c7 => ?_)
          · exfalso; omega
          · skip
            refine w_ic ?_
            exact w_iret (fun q => by cases q) (by have q := h _ hK0; unfold lr_shores at q; rw [if_neg (by omega)] at q; exact q)
        · skip
          refine w_iln rfl ?_
          refine w_iln rfl ?_
          refine w_cmgt (fun c8 => ?_) (fun c8 => ?_)
          · skip
            refine w_ic ?_
            refine w_iret (fun _ => Or.inl rfl) ?_
            refine w_ifne (fun c9 => ?_) (fun c9 => ?_)
            · exfalso; omega
            · skip
              refine w_ic ?_
              exact w_iret (fun q => by cases q) (by have q := h _ hK0; unfold lr_shores at q; rw [if_neg (by omega)] at q; exact q)
          · skip
            refine w_ic ?_
            refine w_goto ?_
            refine w_iret (fun _ => Or.inr rfl) ?_
            refine w_ifne (fun c10 => ?_) (fun c10 => ?_)
            · skip
              refine w_aln rfl ?_
              refine w_cv (st := []) rfl gm rfl (Nat.le_of_ble_eq_true rfl) (fun kk h => h) (r_X12_thinksC (M0 := mj_p0 M m 0 0) (d := 37) gm gs gf m6 m45 (fun M2 t1 t2 t3 => ?_))
              have hM2 : rq_M s m bf M M2 := ⟨t1, fun a a1 a2 a3 => (t2 a a3).trans (wz_c a2), fun j _ => (congrFun (t2 s nbs.symm) j).trans (congrFun es j), fun k k0 _ _ _ _ => (congrFun (t2 m nbm.symm) k).trans (hn_n (Or.inr k0)), fun k hk => (t3 k hk).trans (congrFun es _)⟩
              have e26 : M2.2.2 m 6 = some s := by rw [hM2.1]; exact m6
              refine w_ic ?_
              refine w_is ?_
              refine w_ic ?_
              refine w_is ?_
              refine r_ysh (k := z1) (n := z2) (z := z3) (H := M.1 s) hL gf hH (by omega) (by omega) (by omega) (by omega) z2.toNat 0 M2 _ _ (by omega) hM2 (fun M3 cb sb hM3 => ?_)
              refine w_aln rfl ?_
              refine w_cv (st := []) rfl gm rfl (Nat.le_of_ble_eq_true rfl) (fun kk h => h) (r_X12_forgetsC (d := 37) gm gs gf (by rw [hM3.1]; exact m6) (by rw [hM3.1]; exact m45) (fun M4 f1 f2 f3 => ?_))
              have hK := hM3.end nbs sm.symm f1 f2 f3
              refine w_il rfl ?_
              refine w_iret (fun q => by cases q) ?_
              have q := h M4 hK
              unfold lr_shores at q
              rw [if_pos ⟨⟨by omega, by omega⟩, by omega, by omega⟩] at q
              exact q
            · exfalso; omega
