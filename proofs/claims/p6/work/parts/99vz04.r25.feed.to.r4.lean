section
/-! ===== feed: what comes into the tapes (laid by a program) ===== -/
def rv_fd (f : Nat → Int) (n : Nat) (v : Int) : Nat → Int := fun k => if n ≤ k ∧ k < n + 4 then rv_b7 v (k - n) else f k
theorem rv_fd_of {f g : Nat → Int} {n : Nat} {v : Int} (h1 : ∀ j, j < 4 → g (n + j) = rv_b7 v j) (h2 : ∀ k, ¬ (n ≤ k ∧ k < n + 4) → g k = f k) : g = rv_fd f n v := funext fun k => by
  unfold rv_fd
  by_cases c : n ≤ k ∧ k < n + 4
  · rw [if_pos c, ← h1 (k - n) (by omega), show n + (k - n) = k by omega]
  · rw [if_neg c]; exact h2 k c
def rv_f5 (f : Nat → Int) (n : Nat) (a b c d e : Int) : Nat → Int := rv_fd (rv_fd (rv_fd (rv_fd (rv_fd f n a) (n + 4) b) (n + 8) c) (n + 12) d) (n + 16) e
theorem r_X11_feed2 {d x tp bc : Nat} {n : Nat} {a1 a2 a3 a4 a5 : Int} {G : mj_G} {M : mj_M} {Q : mj_P} (gx : G x = (1011, 0)) (go : G tp = (1008, 0)) (gb : G bc = (38101, 940)) (fx : M.2.2 x 0 = some tp) (fa : M.2.2 tp 0 = some bc) (fn : M.1 tp 1 = (n : Int)) (hn : n ≤ 940) (h1 : n ≤ 920 → ∀ z M', M'.1 bc = rv_f5 (M.1 bc) n a1 a2 a3 a4 a5 → Q (some (.inl z)) G M') (h0 : 920 < n → ∀ z M', M'.1 bc = M.1 bc → Q (some (.inl z)) G M') : mj_R mj_tab (d + 2) 124 [.inr (.inr (some x)), .inl a1, .inl a2, .inl a3, .inl a4, .inl a5] G M Q := by
  have ne : bc ≠ tp := hn_ne gb go (by decide)
  refine ⟨Nat.le_of_ble_eq_true rfl, ?_⟩
  show wz (d + 1) mt_X11_feed.2.2.2.2.1 Q mt_X11_feed.2.2.2.2.1 [some (.inr (.inr (some x))), some (.inl a1), some (.inl a2), some (.inl a3), some (.inl a4), some (.inl a5)] [] G M _ _
  refine w_aln rfl ?_
  refine w_gr gx rfl (by decide) rfl (fx) ?_
  refine w_cv (st := []) rfl go rfl (Nat.le_of_ble_eq_true rfl) (fun kk h => h) ⟨Nat.le_of_ble_eq_true rfl, ?_⟩
  show wz (d) mt_X7_hasRoom.2.2.2.2.1 _ mt_X7_hasRoom.2.2.2.2.1 [some (.inr (.inr (some tp)))] [] _ _ _ _
  refine w_aln rfl ?_
  refine w_gi go rfl (by decide) rfl (fn) ?_
  refine w_bp ?_
  refine w_add ⟨by show (-2147483648 : Int) ≤ ((n : Nat) : Int) + 20; omega, by show ((n : Nat) : Int) + 20 < (2147483648 : Int); omega⟩ ?_
  refine w_sp ?_
  refine w_cmgt (fun c1 => ?_) (fun c1 => ?_)
  · skip
    refine w_ic ?_
    refine w_iret (fun _ => Or.inl rfl) ?_
    refine w_ifne (fun c2 => ?_) (fun c2 => ?_)
    · exfalso; omega
    · skip
      refine w_ic ?_
      exact w_iret (fun q => by cases q) (h0 (by omega) _ _ rfl)
  · skip
    refine w_ic ?_
    refine w_goto ?_
    refine w_iret (fun _ => Or.inr rfl) ?_
    refine w_ifne (fun c3 => ?_) (fun c3 => ?_)
    · skip
      refine w_aln rfl ?_
      refine w_gr gx rfl (by decide) rfl (fx) ?_
      refine w_iln rfl ?_
      refine w_cv (st := []) rfl go rfl (Nat.le_of_ble_eq_true rfl) (fun kk h => h) (r_X7_put (d := d) go gb fa fn (by omega) (by omega) (fun M1 e1 b1 b2 e2 => ?_))
      have n_1 : M1.1 tp 1 = ((n + 4 : Nat) : Int) := e1.trans (by omega)
      have tn : (((n : Nat) : Int)).toNat = n := by omega
      rw [tn] at b1 b2
      have f_1 : M1.1 bc = rv_fd (M.1 bc) n a1 := rv_fd_of (fun j hj => b1 j hj) (fun k hk => (b2 bc k (fun e => ne e.1) (fun e => hk e.2)))
      have e2_1 : M1.2 = M.2 := e2
      clear b1 b2 e1 e2 tn
      refine w_aln rfl ?_
      refine w_gr gx rfl (by decide) rfl ((congrFun (congrFun (congrArg Prod.snd e2_1) x) 0).trans fx) ?_
      refine w_iln rfl ?_
      refine w_cv (st := []) rfl go rfl (Nat.le_of_ble_eq_true rfl) (fun kk h => h) (r_X7_put (d := d) go gb ((congrFun (congrFun (congrArg Prod.snd e2_1) tp) 0).trans fa) n_1 (by omega) (by omega) (fun M2 e1 b1 b2 e2 => ?_))
      have n_2 : M2.1 tp 1 = ((n + 8 : Nat) : Int) := e1.trans (by omega)
      have tn : (((n + 4 : Nat) : Int)).toNat = n + 4 := by omega
      rw [tn] at b1 b2
      have f_2 : M2.1 bc = rv_fd (M1.1 bc) (n + 4) a2 := rv_fd_of (fun j hj => b1 j hj) (fun k hk => (b2 bc k (fun e => ne e.1) (fun e => hk e.2)))
      rw [f_1] at f_2
      have e2_2 : M2.2 = M.2 := e2.trans e2_1
      clear b1 b2 e1 e2 tn
      refine w_aln rfl ?_
      refine w_gr gx rfl (by decide) rfl ((congrFun (congrFun (congrArg Prod.snd e2_2) x) 0).trans fx) ?_
      refine w_iln rfl ?_
      refine w_cv (st := []) rfl go rfl (Nat.le_of_ble_eq_true rfl) (fun kk h => h) (r_X7_put (d := d) go gb ((congrFun (congrFun (congrArg Prod.snd e2_2) tp) 0).trans fa) n_2 (by omega) (by omega) (fun M3 e1 b1 b2 e2 => ?_))
      have n_3 : M3.1 tp 1 = ((n + 12 : Nat) : Int) := e1.trans (by omega)
      have tn : (((n + 8 : Nat) : Int)).toNat = n + 8 := by omega
      rw [tn] at b1 b2
      have f_3 : M3.1 bc = rv_fd (M2.1 bc) (n + 8) a3 := rv_fd_of (fun j hj => b1 j hj) (fun k hk => (b2 bc k (fun e => ne e.1) (fun e => hk e.2)))
      rw [f_2] at f_3
      have e2_3 : M3.2 = M.2 := e2.trans e2_2
      clear b1 b2 e1 e2 tn
      refine w_aln rfl ?_
      refine w_gr gx rfl (by decide) rfl ((congrFun (congrFun (congrArg Prod.snd e2_3) x) 0).trans fx) ?_
      refine w_il rfl ?_
      refine w_cv (st := []) rfl go rfl (Nat.le_of_ble_eq_true rfl) (fun kk h => h) (r_X7_put (d := d) go gb ((congrFun (congrFun (congrArg Prod.snd e2_3) tp) 0).trans fa) n_3 (by omega) (by omega) (fun M4 e1 b1 b2 e2 => ?_))
      have n_4 : M4.1 tp 1 = ((n + 16 : Nat) : Int) := e1.trans (by omega)
      have tn : (((n + 12 : Nat) : Int)).toNat = n + 12 := by omega
      rw [tn] at b1 b2
      have f_4 : M4.1 bc = rv_fd (M3.1 bc) (n + 12) a4 := rv_fd_of (fun j hj => b1 j hj) (fun k hk => (b2 bc k (fun e => ne e.1) (fun e => hk e.2)))
      rw [f_3] at f_4
      have e2_4 : M4.2 = M.2 := e2.trans e2_3
      clear b1 b2 e1 e2 tn
      refine w_aln rfl ?_
      refine w_gr gx rfl (by decide) rfl ((congrFun (congrFun (congrArg Prod.snd e2_4) x) 0).trans fx) ?_
      refine w_il rfl ?_
      refine w_cv (st := []) rfl go rfl (Nat.le_of_ble_eq_true rfl) (fun kk h => h) (r_X7_put (d := d) go gb ((congrFun (congrFun (congrArg Prod.snd e2_4) tp) 0).trans fa) n_4 (by omega) (by omega) (fun M5 e1 b1 b2 e2 => ?_))
      have n_5 : M5.1 tp 1 = ((n + 20 : Nat) : Int) := e1.trans (by omega)
      have tn : (((n + 16 : Nat) : Int)).toNat = n + 16 := by omega
      rw [tn] at b1 b2
      have f_5 : M5.1 bc = rv_fd (M4.1 bc) (n + 16) a5 := rv_fd_of (fun j hj => b1 j hj) (fun k hk => (b2 bc k (fun e => ne e.1) (fun e => hk e.2)))
      rw [f_4] at f_5
      have e2_5 : M5.2 = M.2 := e2.trans e2_4
      clear b1 b2 e1 e2 tn
      refine w_aln rfl ?_
      refine w_gr gx rfl (by decide) rfl ((congrFun (congrFun (congrArg Prod.snd e2_5) x) 0).trans fx) ?_
      refine w_gi go rfl (by decide) rfl (n_5) ?_
      exact w_iret (fun q => by cases q) (h1 (by omega) _ _ f_5)
    · exfalso; omega
theorem r_X12_feed2 {d m bt : Nat} {n : Nat} {a1 a2 a3 a4 a5 : Int} {G : mj_G} {M : mj_M} {Q : mj_P} (go : G m = (1012, 0)) (gb : G bt = (50101, 940)) (fa : M.2.2 m 1 = some bt) (fn : M.1 m 2 = (n : Int)) (hn : n ≤ 940) (h1 : n ≤ 920 → ∀ z M', M'.1 bt = rv_f5 (M.1 bt) n a1 a2 a3 a4 a5 → Q (some (.inl z)) G M') (h0 : 920 < n → ∀ z M', M'.1 bt = M.1 bt → Q (some (.inl z)) G M') : mj_R mj_tab (d + 2) 187 [.inr (.inr (some m)), .inl a1, .inl a2, .inl a3, .inl a4, .inl a5] G M Q := by
  have ne : bt ≠ m := hn_ne gb go (by decide)
  refine ⟨Nat.le_of_ble_eq_true rfl, ?_⟩
  show wz (d + 1) mt_X12_feed.2.2.2.2.1 Q mt_X12_feed.2.2.2.2.1 [some (.inr (.inr (some m))), some (.inl a1), some (.inl a2), some (.inl a3), some (.inl a4), some (.inl a5)] [] G M _ _
  refine w_aln rfl ?_
  refine w_ic ?_
  refine w_pi go rfl (by decide) rfl (fun q => by cases q) ?_
  refine w_aln rfl ?_
  refine w_gi go rfl (by decide) rfl ((hn_n (Or.inr (by decide))).trans fn) ?_
  refine w_bp ?_
  refine w_add ⟨by show (-2147483648 : Int) ≤ ((n : Nat) : Int) + 20; omega, by show ((n : Nat) : Int) + 20 < (2147483648 : Int); omega⟩ ?_
  refine w_sp ?_
  refine w_cmle (fun c1 => ?_) (fun c1 => ?_)
  · skip
    refine w_aln rfl ?_
    refine w_iln rfl ?_
    refine w_cv (st := []) rfl go rfl (Nat.le_of_ble_eq_true rfl) (fun kk h => h) (r_X12_four (d := d) go gb fa ((hn_n (Or.inr (by decide))).trans fn) (by omega) (by omega) (fun M1 e1 b1 b2 e2 => ?_))
    have n_1 : M1.1 m 2 = ((n + 4 : Nat) : Int) := e1.trans (by omega)
    have tn : (((n : Nat) : Int)).toNat = n := by omega
    rw [tn] at b1 b2
    have f_1 : M1.1 bt = rv_fd (M.1 bt) n a1 := rv_fd_of (fun j hj => (b1 j hj).trans (rv_b712 _ j hj).symm) (fun k hk => ((b2 bt k (fun e => ne e.1) (fun e => hk e.2)).trans (hn_n (Or.inl ne))))
    have e2_1 : M1.2 = M.2 := e2
    clear b1 b2 e1 e2 tn
    refine w_aln rfl ?_
    refine w_iln rfl ?_
    refine w_cv (st := []) rfl go rfl (Nat.le_of_ble_eq_true rfl) (fun kk h => h) (r_X12_four (d := d) go gb ((congrFun (congrFun (congrArg Prod.snd e2_1) m) 1).trans fa) n_1 (by omega) (by omega) (fun M2 e1 b1 b2 e2 => ?_))
    have n_2 : M2.1 m 2 = ((n + 8 : Nat) : Int) := e1.trans (by omega)
    have tn : (((n + 4 : Nat) : Int)).toNat = n + 4 := by omega
    rw [tn] at b1 b2
    have f_2 : M2.1 bt = rv_fd (M1.1 bt) (n + 4) a2 := rv_fd_of (fun j hj => (b1 j hj).trans (rv_b712 _ j hj).symm) (fun k hk => (b2 bt k (fun e => ne e.1) (fun e => hk e.2)))
    rw [f_1] at f_2
    have e2_2 : M2.2 = M.2 := e2.trans e2_1
    clear b1 b2 e1 e2 tn
    refine w_aln rfl ?_
    refine w_iln rfl ?_
    refine w_cv (st := []) rfl go rfl (Nat.le_of_ble_eq_true rfl) (fun kk h => h) (r_X12_four (d := d) go gb ((congrFun (congrFun (congrArg Prod.snd e2_2) m) 1).trans fa) n_2 (by omega) (by omega) (fun M3 e1 b1 b2 e2 => ?_))
    have n_3 : M3.1 m 2 = ((n + 12 : Nat) : Int) := e1.trans (by omega)
    have tn : (((n + 8 : Nat) : Int)).toNat = n + 8 := by omega
    rw [tn] at b1 b2
    have f_3 : M3.1 bt = rv_fd (M2.1 bt) (n + 8) a3 := rv_fd_of (fun j hj => (b1 j hj).trans (rv_b712 _ j hj).symm) (fun k hk => (b2 bt k (fun e => ne e.1) (fun e => hk e.2)))
    rw [f_2] at f_3
    have e2_3 : M3.2 = M.2 := e2.trans e2_2
    clear b1 b2 e1 e2 tn
    refine w_aln rfl ?_
    refine w_il rfl ?_
    refine w_cv (st := []) rfl go rfl (Nat.le_of_ble_eq_true rfl) (fun kk h => h) (r_X12_four (d := d) go gb ((congrFun (congrFun (congrArg Prod.snd e2_3) m) 1).trans fa) n_3 (by omega) (by omega) (fun M4 e1 b1 b2 e2 => ?_))
    have n_4 : M4.1 m 2 = ((n + 16 : Nat) : Int) := e1.trans (by omega)
    have tn : (((n + 12 : Nat) : Int)).toNat = n + 12 := by omega
    rw [tn] at b1 b2
    have f_4 : M4.1 bt = rv_fd (M3.1 bt) (n + 12) a4 := rv_fd_of (fun j hj => (b1 j hj).trans (rv_b712 _ j hj).symm) (fun k hk => (b2 bt k (fun e => ne e.1) (fun e => hk e.2)))
    rw [f_3] at f_4
    have e2_4 : M4.2 = M.2 := e2.trans e2_3
    clear b1 b2 e1 e2 tn
    refine w_aln rfl ?_
    refine w_il rfl ?_
    refine w_cv (st := []) rfl go rfl (Nat.le_of_ble_eq_true rfl) (fun kk h => h) (r_X12_four (d := d) go gb ((congrFun (congrFun (congrArg Prod.snd e2_4) m) 1).trans fa) n_4 (by omega) (by omega) (fun M5 e1 b1 b2 e2 => ?_))
    have n_5 : M5.1 m 2 = ((n + 20 : Nat) : Int) := e1.trans (by omega)
    have tn : (((n + 16 : Nat) : Int)).toNat = n + 16 := by omega
    rw [tn] at b1 b2
    have f_5 : M5.1 bt = rv_fd (M4.1 bt) (n + 16) a5 := rv_fd_of (fun j hj => (b1 j hj).trans (rv_b712 _ j hj).symm) (fun k hk => (b2 bt k (fun e => ne e.1) (fun e => hk e.2)))
    rw [f_4] at f_5
    have e2_5 : M5.2 = M.2 := e2.trans e2_4
    clear b1 b2 e1 e2 tn
    refine w_aln rfl ?_
    refine w_gi go rfl (by decide) rfl (n_5) ?_
    exact w_iret (fun q => by cases q) (h1 (by omega) _ _ f_5)
  · skip
    refine w_ic ?_
    exact w_iret (fun q => by cases q) (h0 (by omega) _ _ (wz_c ne))
end
section
/-! ===== the class's plain: the state behind it (laid by a program) ===== -/
/-- what else stays behind plain -/
def rv_fo (x tp pl wa oa dl fa sa ca se ye ud : Nat) (tr br : Nat → Nat) (M M' : mj_M) : Prop := ∀ a, a ≠ x → a ≠ tp → a ≠ pl → a ≠ wa → a ≠ oa → (∀ t, t < 8 → a ≠ tr t) → (∀ t, t < 8 → a ≠ br t) → a ≠ dl → a ≠ fa → a ≠ sa → a ≠ ca → a ≠ se → a ≠ ye → a ≠ ud → M'.1 a = M.1 a
/-- the state behind a plain() that reads a PLAIN -/
def rv_PO (x tp pl na wa oa sp nw pn dl fa sa ca se ye ud : Nat) (tr br : Nat → Nat) (PL WA OA : Nat → Int) (TO BI : Nat → Nat → Int) (nm : Nat → List Int) (M M' : mj_M) : Prop :=
  (∀ k, k ≠ 9 → M'.1 pl k = PL k) ∧ M'.1 wa = WA ∧ (∀ s, s < 8 → M'.1 (tr s) = TO s) ∧ (∀ s, s < 8 → M'.1 (br s) = BI s) ∧ (∀ s, s < 8 → M'.2.1 na s = rv_5 (nm s) ∧ rv_wo (nm s)) ∧ M'.2.2 nw 0 = some pl ∧ (sp ≠ nw → M'.2.2 sp 0 = some pn) ∧ (∀ a j, ¬ (a = tp ∧ j = 9) → ¬ (a = nw ∧ j = 0) → ¬ (a = sp ∧ j = 0) → M'.2.2 a j = M.2.2 a j) ∧ (∀ a, a ≠ na → a ≠ tp → M'.2.1 a = M.2.1 a) ∧ rv_fo x tp pl wa oa dl fa sa ca se ye ud tr br M M'
/-- the state behind a plain() that tells a FAULT -/
def rv_PF (x tp pl na wa oa : Nat) (tr br : Nat → Nat) (M M' : mj_M) : Prop := (∀ a j, ¬ (a = tp ∧ j = 9) → M'.2.2 a j = M.2.2 a j) ∧ (∀ a, a ≠ na → a ≠ tp → M'.2.1 a = M.2.1 a) ∧ (∀ a, a ≠ x → a ≠ tp → a ≠ pl → a ≠ wa → a ≠ oa → (∀ t, t < 8 → a ≠ tr t) → (∀ t, t < 8 → a ≠ br t) → M'.1 a = M.1 a)
/-- and fresh: bids to be undone, YEAR, SENTENCE, CONTRACTS -/
def rv_P2 (dl fa sa ca se ye ud : Nat) (M' : mj_M) : Prop := M'.1 ud 3 = 0 ∧ M'.1 ye 0 = 0 ∧ M'.1 se 4 = 0 ∧ M'.1 se 5 = 0 ∧ (∀ j, j < 12 → M'.1 fa j = -1 ∧ M'.1 sa j = -1 ∧ M'.1 ca j = 0) ∧ M'.1 dl 3 = 0
theorem r_qp_F {G : mj_G} {M0 M : mj_M} {B : Nat → Int} {n lim tp bc pl na ta ba wa oa : Nat} {tr br : Nat → Nat} {T : Nat → Nat × Nat × Int × List Int × Nat} {Q : mj_P} {d : Nat} {x sp nw pn dl fa sa ca se ye ud : Nat} {z : Int} (hA : rv_AT G M0 B n lim tp bc pl na ta ba wa oa tr br T) (hX : rv_X G M0 x tp pl sp nw pn dl fa sa ca se ye ud) {f : Int} {a : Nat} (hF : rv_F tp pl na wa oa tr br M0 f a M) (hQ : ∀ M', rv_PF x tp pl na wa oa tr br M0 M' → Q (some (.inl (rv_vf a))) G M') : ∀ cb sb, wz (d + 7) mt_X11_plain.2.2.2.2.1 Q (mt_X11_plain.2.2.2.2.1.drop 14) [some (.inr (.inr (some x))), some (.inr (.inr (some pl))), none] [.inl z] G M cb sb := by
  obtain ⟨⟨gtp, gbc, gpl, gna, gta, gba, gwa, goa, gtr, gbr, itr, ibr, r1, r2, r3, r4, r5, r6, r7, r8, rb, rw0, n1, n2, hIw⟩, hT⟩ := id hA
  obtain ⟨⟨gx, gsp, gnw, gse, gye, gud, hD⟩, x_x0, x_x1, x_x2, x_x5, x_sp0, x_nw0, x_nw1, x_nw2, x_nw3⟩ := id hX
  have gdl := hD.1
  obtain ⟨f2, f3, ⟨w1, w2, hfr⟩, f0⟩ := hF
  intro cb sb
  refine w_isn ?_
  show wz _ _ _ _ [some (.inr (.inr (some x))), some (.inr (.inr (some pl))), some (.inl z)] _ _ _ _ _
  refine w_aln rfl ?_
  refine w_gr gx rfl (by decide) rfl ((hfr x 0 (fun e => absurd e.1 (hn_ne gx gtp (by decide)))).trans x_x0) ?_
  refine w_gi gtp rfl (by decide) rfl (f2) ?_
  refine w_ifne (fun c1 => ?_) (fun c1 => ?_)
  · skip
    refine w_aln rfl ?_
    refine w_iln rfl ?_
    refine w_cv (st := []) rfl gx rfl (Nat.le_of_ble_eq_true rfl) (fun kk h => h) ⟨Nat.le_of_ble_eq_true rfl, ?_⟩
    show wz (d + 6) mt_X11_closeTape.2.2.2.2.1 _ mt_X11_closeTape.2.2.2.2.1 [some (.inr (.inr (some x))), some (.inl z)] [] _ _ _ _
    refine w_aln rfl ?_
    refine w_gr gx rfl (by decide) rfl ((hfr x 0 (fun e => absurd e.1 (hn_ne gx gtp (by decide)))).trans x_x0) ?_
    refine w_ic ?_
    refine w_pi gtp rfl (by decide) rfl (fun q => by cases q) ?_
    refine w_aln rfl ?_
    refine w_aln rfl ?_
    refine w_gr gx rfl (by decide) rfl ((hfr x 0 (fun e => absurd e.1 (hn_ne gx gtp (by decide)))).trans x_x0) ?_
    refine w_gi gtp rfl (by decide) rfl ((hn_n (Or.inr (by decide))).trans (f2)) ?_
    refine w_pi gx rfl (by decide) rfl (fun q => by cases q) ?_
    refine w_aln rfl ?_
    refine w_gi gx rfl (by decide) rfl (hn_s) ?_
    refine w_ifne (fun c2 => ?_) (fun c2 => ?_)
    · skip
      refine w_ic ?_
      refine w_aln rfl ?_
      refine w_gr gx rfl (by decide) rfl ((hfr x 0 (fun e => absurd e.1 (hn_ne gx gtp (by decide)))).trans x_x0) ?_
      refine w_gi gtp rfl (by decide) rfl ((hn_n (Or.inr (by decide))).trans ((hn_n (Or.inr (by decide))).trans (f3))) ?_
      refine w_subw ?_
      intro z3 hz3 ez3
      refine w_iret (fun q => by cases q) ?_
      have ev : z3 = rv_vf a := ez3
      refine w_iret (fun q => by cases q) ?_
      rw [ev]
      exact hQ _ ⟨hfr, w2, fun a a0 a1 a2 a3 a4 a5 a6 => (wz_c a0).trans ((wz_c a1).trans (w1 a a1 a2 a3 a4 a5 a6))⟩
    · exfalso; omega
  · exfalso; omega
theorem r_qp_O {G : mj_G} {M0 M : mj_M} {B : Nat → Int} {n lim tp bc pl na ta ba wa oa : Nat} {tr br : Nat → Nat} {T : Nat → Nat × Nat × Int × List Int × Nat} {Q : mj_P} {d : Nat} {x sp nw pn dl fa sa ca se ye ud : Nat} {z : Int} (hA : rv_AT G M0 B n lim tp bc pl na ta ba wa oa tr br T) (hX : rv_X G M0 x tp pl sp nw pn dl fa sa ca se ye ud) {PL WA OA : Nat → Int} {TO BI : Nat → Nat → Int} {nm : Nat → List Int} {t : Nat × Nat × Int × List Int × Nat} (hS : rv_S G M0 n lim tp pl na wa oa tr br t PL WA OA TO BI nm M) (hQ : ∀ M', rv_PO x tp pl na wa oa sp nw pn dl fa sa ca se ye ud tr br PL WA OA TO BI nm M0 M' → rv_P2 dl fa sa ca se ye ud M' → Q (some (.inl z)) G M') : ∀ cb sb, wz (d + 7) mt_X11_plain.2.2.2.2.1 Q (mt_X11_plain.2.2.2.2.1.drop 14) [some (.inr (.inr (some x))), some (.inr (.inr (some pl))), none] [.inl z] G M cb sb := by
  obtain ⟨⟨gtp, gbc, gpl, gna, gta, gba, gwa, goa, gtr, gbr, itr, ibr, r1, r2, r3, r4, r5, r6, r7, r8, rb, rw0, n1, n2, hIw⟩, hT⟩ := id hA
  obtain ⟨⟨gx, gsp, gnw, gse, gye, gud, hD⟩, x_x0, x_x1, x_x2, x_x5, x_sp0, x_nw0, x_nw1, x_nw2, x_nw3⟩ := id hX
  have gdl := hD.1
  have hfr := hS.2.2.2.2.2.2.2.2.2.2
  have f2 := hS.1.2.2
  obtain ⟨-, -, c5, c6, c7, c8, c9, c10, w1, w2, -⟩ := id hS
  intro cb sb
  refine w_isn ?_
  show wz _ _ _ _ [some (.inr (.inr (some x))), some (.inr (.inr (some pl))), some (.inl z)] _ _ _ _ _
  refine w_aln rfl ?_
  refine w_gr gx rfl (by decide) rfl ((hfr x 0 (fun e => absurd e.1 (hn_ne gx gtp (by decide)))).trans x_x0) ?_
  refine w_gi gtp rfl (by decide) rfl (f2) ?_
  refine w_ifne (fun c1 => ?_) (fun c1 => ?_)
  · exfalso; omega
  · skip
    refine w_aln rfl ?_
    refine w_dupr ?_
    refine w_gi gx rfl (by decide) rfl (rfl) ?_
    refine w_ic ?_
    refine w_addw ?_
    intro z2 hz2 ez2
    refine w_pi gx rfl (by decide) rfl (fun q => by cases q) ?_
    refine w_aln rfl ?_
    refine w_aln rfl ?_
    refine w_gi gx rfl (by decide) rfl (hn_s) ?_
    refine w_pi gpl rfl (by decide) rfl (fun q => by cases q) ?_
    refine w_aln rfl ?_
    refine w_gr gx rfl (by decide) rfl ((hfr x 2 (fun e => absurd e.1 (hn_ne gx gtp (by decide)))).trans x_x2) ?_
    refine w_aln rfl ?_
    refine w_gr gx rfl (by decide) rfl ((hfr x 1 (fun e => absurd e.1 (hn_ne gx gtp (by decide)))).trans x_x1) ?_
    refine w_gr gnw rfl (by decide) rfl ((hfr nw 0 (fun e => absurd e.1 (hn_ne gnw gtp (by decide)))).trans x_nw0) ?_
    refine w_pr gsp rfl (by decide) rfl ?_
    refine w_aln rfl ?_
    refine w_gr gx rfl (by decide) rfl ((wz_nr (Or.inr (by decide))).trans ((hfr x 1 (fun e => absurd e.1 (hn_ne gx gtp (by decide)))).trans x_x1)) ?_
    refine w_aln rfl ?_
    refine w_pr gnw rfl (by decide) rfl ?_
    refine w_aln rfl ?_
    refine w_gr gx rfl (by decide) rfl ((wz_nr (Or.inr (by decide))).trans ((wz_nr (Or.inr (by decide))).trans ((hfr x 1 (fun e => absurd e.1 (hn_ne gx gtp (by decide)))).trans x_x1))) ?_
    refine w_gr gnw rfl (by decide) rfl ((wz_nr (Or.inr (by decide))).trans ((wz_nr (Or.inr (by decide))).trans ((hfr nw 1 (fun e => absurd e.1 (hn_ne gnw gtp (by decide)))).trans x_nw1))) ?_
    refine w_cv (st := []) rfl gdl rfl (Nat.le_of_ble_eq_true rfl) (fun kk h => h) (r_X1_clear (d := d + 6) (fa := fa) (sa := sa) (ca := ca) ?_ (fun M3 u2 u1 u3 u4 => ?_))
    · exact ⟨hD.1, hD.2.1, hD.2.2.1, hD.2.2.2.1, (wz_nr (Or.inl (hn_ne hD.1 gnw (by decide)))).trans ((wz_nr (Or.inl (hn_ne hD.1 gsp (by decide)))).trans ((hfr dl 0 (fun e => absurd e.1 (hn_ne hD.1 gtp (by decide)))).trans hD.2.2.2.2.1)), (wz_nr (Or.inl (hn_ne hD.1 gnw (by decide)))).trans ((wz_nr (Or.inl (hn_ne hD.1 gsp (by decide)))).trans ((hfr dl 1 (fun e => absurd e.1 (hn_ne hD.1 gtp (by decide)))).trans hD.2.2.2.2.2.1)), (wz_nr (Or.inl (hn_ne hD.1 gnw (by decide)))).trans ((wz_nr (Or.inl (hn_ne hD.1 gsp (by decide)))).trans ((hfr dl 2 (fun e => absurd e.1 (hn_ne hD.1 gtp (by decide)))).trans hD.2.2.2.2.2.2))⟩
    refine w_aln rfl ?_
    refine w_gr gx rfl (by decide) rfl ((congrFun (congrFun (congrArg Prod.snd u2) x) 1).trans ((wz_nr (Or.inr (by decide))).trans ((wz_nr (Or.inr (by decide))).trans ((hfr x 1 (fun e => absurd e.1 (hn_ne gx gtp (by decide)))).trans x_x1)))) ?_
    refine w_gr gnw rfl (by decide) rfl ((congrFun (congrFun (congrArg Prod.snd u2) nw) 2).trans ((wz_nr (Or.inr (by decide))).trans ((wz_nr (Or.inr (by decide))).trans ((hfr nw 2 (fun e => absurd e.1 (hn_ne gnw gtp (by decide)))).trans x_nw2)))) ?_
    refine w_cv (st := []) rfl gse rfl (Nat.le_of_ble_eq_true rfl) (fun kk h => h) ⟨Nat.le_of_ble_eq_true rfl, ?_⟩
    show wz (d + 6) mt_X5_clear.2.2.2.2.1 _ mt_X5_clear.2.2.2.2.1 [some (.inr (.inr (some se)))] [] _ _ _ _
    refine w_aln rfl ?_
    refine w_ic ?_
    refine w_pi gse rfl (by decide) rfl (fun q => by cases q) ?_
    refine w_aln rfl ?_
    refine w_ic ?_
    refine w_pi gse rfl (by decide) rfl (fun q => by cases q) ?_
    refine w_ret ?_
    refine w_aln rfl ?_
    refine w_gr gx rfl (by decide) rfl ((congrFun (congrFun (congrArg Prod.snd u2) x) 1).trans ((wz_nr (Or.inr (by decide))).trans ((wz_nr (Or.inr (by decide))).trans ((hfr x 1 (fun e => absurd e.1 (hn_ne gx gtp (by decide)))).trans x_x1)))) ?_
    refine w_gr gnw rfl (by decide) rfl ((congrFun (congrFun (congrArg Prod.snd u2) nw) 3).trans ((wz_nr (Or.inr (by decide))).trans ((wz_nr (Or.inr (by decide))).trans ((hfr nw 3 (fun e => absurd e.1 (hn_ne gnw gtp (by decide)))).trans x_nw3)))) ?_
    refine w_ic ?_
    refine w_pi gye rfl (by decide) rfl (fun _ => by omega) ?_
    refine w_aln rfl ?_
    refine w_gr gx rfl (by decide) rfl ((congrFun (congrFun (congrArg Prod.snd u2) x) 5).trans ((wz_nr (Or.inr (by decide))).trans ((wz_nr (Or.inr (by decide))).trans ((hfr x 5 (fun e => absurd e.1 (hn_ne gx gtp (by decide)))).trans x_x5)))) ?_
    refine w_ic ?_
    refine w_pi gud rfl (by decide) rfl (fun q => by cases q) ?_
    refine w_aln rfl ?_
    refine w_iln rfl ?_
    refine w_cv (st := []) rfl gx rfl (Nat.le_of_ble_eq_true rfl) (fun kk h => h) ⟨Nat.le_of_ble_eq_true rfl, ?_⟩
    show wz (d + 6) mt_X11_closeTape.2.2.2.2.1 _ mt_X11_closeTape.2.2.2.2.1 [some (.inr (.inr (some x))), some (.inl z)] [] _ _ _ _
    refine w_aln rfl ?_
    refine w_gr gx rfl (by decide) rfl ((congrFun (congrFun (congrArg Prod.snd u2) x) 0).trans ((wz_nr (Or.inl (hn_ne gx gnw (by decide)))).trans ((wz_nr (Or.inl (hn_ne gx gsp (by decide)))).trans ((hfr x 0 (fun e => absurd e.1 (hn_ne gx gtp (by decide)))).trans x_x0)))) ?_
    refine w_ic ?_
    refine w_pi gtp rfl (by decide) rfl (fun q => by cases q) ?_
    refine w_aln rfl ?_
    refine w_aln rfl ?_
    refine w_gr gx rfl (by decide) rfl ((congrFun (congrFun (congrArg Prod.snd u2) x) 0).trans ((wz_nr (Or.inl (hn_ne gx gnw (by decide)))).trans ((wz_nr (Or.inl (hn_ne gx gsp (by decide)))).trans ((hfr x 0 (fun e => absurd e.1 (hn_ne gx gtp (by decide)))).trans x_x0)))) ?_
    refine w_gi gtp rfl (by decide) rfl ((hn_n (Or.inr (by decide))).trans ((hn_n (Or.inr (by decide))).trans ((hn_n (Or.inr (by decide))).trans ((hn_n (Or.inr (by decide))).trans ((hn_n (Or.inr (by decide))).trans ((congrFun (u1 tp (hn_ne gtp gdl (by decide)) (hn_ne gtp hD.2.1 (by decide)) (hn_ne gtp hD.2.2.1 (by decide)) (hn_ne gtp hD.2.2.2.1 (by decide))) 2).trans ((hn_n (Or.inr (by decide))).trans ((hn_n (Or.inr (by decide))).trans (f2))))))))) ?_
    refine w_pi gx rfl (by decide) rfl (fun q => by cases q) ?_
    refine w_aln rfl ?_
    refine w_gi gx rfl (by decide) rfl (hn_s) ?_
    refine w_ifne (fun c3 => ?_) (fun c3 => ?_)
    · exfalso; omega
    · skip
      refine w_iln rfl ?_
      refine w_goto ?_
      refine w_iret (fun q => by cases q) ?_
      exact w_iret (fun q => by cases q) (hQ _ ⟨fun k hk => (hn_n (Or.inl (hn_ne gpl gx (by decide)))).trans ((hn_n (Or.inl (hn_ne gpl gtp (by decide)))).trans ((hn_n (Or.inl (hn_ne gpl gud (by decide)))).trans ((hn_n (Or.inl (hn_ne gpl gye (by decide)))).trans ((hn_n (Or.inl (hn_ne gpl gse (by decide)))).trans ((hn_n (Or.inl (hn_ne gpl gse (by decide)))).trans ((congrFun (u1 pl (hn_ne gpl gdl (by decide)) (hn_ne gpl hD.2.1 (by decide)) (hn_ne gpl hD.2.2.1 (by decide)) (hn_ne gpl hD.2.2.2.1 (by decide))) k).trans ((hn_n (Or.inr hk)).trans ((hn_n (Or.inl (hn_ne gpl gx (by decide)))).trans (congrFun c5 k))))))))), (wz_c (hn_ne gwa gx (by decide))).trans ((wz_c (hn_ne gwa gtp (by decide))).trans ((wz_c (hn_ne gwa gud (by decide))).trans ((wz_c (hn_ne gwa gye (by decide))).trans ((wz_c (hn_ne gwa gse (by decide))).trans ((wz_c (hn_ne gwa gse (by decide))).trans ((u1 wa (hn_ne gwa gdl (by decide)) (hn_ne gwa hD.2.1 (by decide)) (hn_ne gwa hD.2.2.1 (by decide)) (hn_ne gwa hD.2.2.2.1 (by decide))).trans ((wz_c (hn_ne gwa gpl (by decide))).trans ((wz_c (hn_ne gwa gx (by decide))).trans (c6))))))))), fun s hs => (wz_c (hn_ne (gtr s hs) gx (by decide))).trans ((wz_c (hn_ne (gtr s hs) gtp (by decide))).trans ((wz_c (hn_ne (gtr s hs) gud (by decide))).trans ((wz_c (hn_ne (gtr s hs) gye (by decide))).trans ((wz_c (hn_ne (gtr s hs) gse (by decide))).trans ((wz_c (hn_ne (gtr s hs) gse (by decide))).trans ((u1 (tr s) (hn_ne (gtr s hs) gdl (by decide)) (hn_ne (gtr s hs) hD.2.1 (by decide)) (hn_ne (gtr s hs) hD.2.2.1 (by decide)) (hn_ne (gtr s hs) hD.2.2.2.1 (by decide))).trans ((wz_c (hn_ne (gtr s hs) gpl (by decide))).trans ((wz_c (hn_ne (gtr s hs) gx (by decide))).trans (c8 s hs))))))))), fun s hs => (wz_c (hn_ne (gbr s hs) gx (by decide))).trans ((wz_c (hn_ne (gbr s hs) gtp (by decide))).trans ((wz_c (hn_ne (gbr s hs) gud (by decide))).trans ((wz_c (hn_ne (gbr s hs) gye (by decide))).trans ((wz_c (hn_ne (gbr s hs) gse (by decide))).trans ((wz_c (hn_ne (gbr s hs) gse (by decide))).trans ((u1 (br s) (hn_ne (gbr s hs) gdl (by decide)) (hn_ne (gbr s hs) hD.2.1 (by decide)) (hn_ne (gbr s hs) hD.2.2.1 (by decide)) (hn_ne (gbr s hs) hD.2.2.2.1 (by decide))).trans ((wz_c (hn_ne (gbr s hs) gpl (by decide))).trans ((wz_c (hn_ne (gbr s hs) gx (by decide))).trans (c9 s hs))))))))), fun s hs => ⟨(congrFun (congrFun (congrArg Prod.fst u2) na) s).trans (c10 s hs).1, (c10 s hs).2⟩, (congrFun (congrFun (congrArg Prod.snd u2) nw) 0).trans wz_sr, fun hne => (congrFun (congrFun (congrArg Prod.snd u2) sp) 0).trans ((wz_nr (Or.inl hne)).trans wz_sr), fun a j g1 g2 g3 => (congrFun (congrFun (congrArg Prod.snd u2) a) j).trans ((wz_nr (Decidable.not_and_iff_or_not.mp g2)).trans ((wz_nr (Decidable.not_and_iff_or_not.mp g3)).trans (hfr a j g1))), fun a a1 a2 => (congrFun (congrArg Prod.fst u2) a).trans (w2 a a1 a2), fun a a0 a1 a2 a3 a4 a5 a6 a7 a8 a9 b0 b1 b2 b3 => (wz_c a0).trans ((wz_c a1).trans ((wz_c b3).trans ((wz_c b2).trans ((wz_c b1).trans ((wz_c b1).trans ((u1 a a7 a8 a9 b0).trans ((wz_c a2).trans ((wz_c a0).trans (w1 a a1 a2 a3 a4 a5 a6)))))))))⟩ ⟨(hn_n (Or.inl (hn_ne gud gx (by decide)))).trans ((hn_n (Or.inl (hn_ne gud gtp (by decide)))).trans (hn_s)), (hn_n (Or.inl (hn_ne gye gx (by decide)))).trans ((hn_n (Or.inl (hn_ne gye gtp (by decide)))).trans ((hn_n (Or.inl (hn_ne gye gud (by decide)))).trans (hn_s))), (by first | exact (hn_n (Or.inl (hn_ne gse gx (by decide)))).trans ((hn_n (Or.inl (hn_ne gse gtp (by decide)))).trans ((hn_n (Or.inl (hn_ne gse gud (by decide)))).trans ((hn_n (Or.inl (hn_ne gse gye (by decide)))).trans (hn_s)))) | exact (hn_n (Or.inl (hn_ne gse gx (by decide)))).trans ((hn_n (Or.inl (hn_ne gse gtp (by decide)))).trans ((hn_n (Or.inl (hn_ne gse gud (by decide)))).trans ((hn_n (Or.inl (hn_ne gse gye (by decide)))).trans ((hn_n (Or.inr (by decide))).trans hn_s))))), (by first | exact (hn_n (Or.inl (hn_ne gse gx (by decide)))).trans ((hn_n (Or.inl (hn_ne gse gtp (by decide)))).trans ((hn_n (Or.inl (hn_ne gse gud (by decide)))).trans ((hn_n (Or.inl (hn_ne gse gye (by decide)))).trans (hn_s)))) | exact (hn_n (Or.inl (hn_ne gse gx (by decide)))).trans ((hn_n (Or.inl (hn_ne gse gtp (by decide)))).trans ((hn_n (Or.inl (hn_ne gse gud (by decide)))).trans ((hn_n (Or.inl (hn_ne gse gye (by decide)))).trans ((hn_n (Or.inr (by decide))).trans hn_s))))), fun j hj => ⟨(hn_n (Or.inl (hn_ne hD.2.1 gx (by decide)))).trans ((hn_n (Or.inl (hn_ne hD.2.1 gtp (by decide)))).trans ((hn_n (Or.inl (hn_ne hD.2.1 gud (by decide)))).trans ((hn_n (Or.inl (hn_ne hD.2.1 gye (by decide)))).trans ((hn_n (Or.inl (hn_ne hD.2.1 gse (by decide)))).trans ((hn_n (Or.inl (hn_ne hD.2.1 gse (by decide)))).trans ((u3 j hj).1)))))), (hn_n (Or.inl (hn_ne hD.2.2.1 gx (by decide)))).trans ((hn_n (Or.inl (hn_ne hD.2.2.1 gtp (by decide)))).trans ((hn_n (Or.inl (hn_ne hD.2.2.1 gud (by decide)))).trans ((hn_n (Or.inl (hn_ne hD.2.2.1 gye (by decide)))).trans ((hn_n (Or.inl (hn_ne hD.2.2.1 gse (by decide)))).trans ((hn_n (Or.inl (hn_ne hD.2.2.1 gse (by decide)))).trans ((u3 j hj).2.1)))))), (hn_n (Or.inl (hn_ne hD.2.2.2.1 gx (by decide)))).trans ((hn_n (Or.inl (hn_ne hD.2.2.2.1 gtp (by decide)))).trans ((hn_n (Or.inl (hn_ne hD.2.2.2.1 gud (by decide)))).trans ((hn_n (Or.inl (hn_ne hD.2.2.2.1 gye (by decide)))).trans ((hn_n (Or.inl (hn_ne hD.2.2.2.1 gse (by decide)))).trans ((hn_n (Or.inl (hn_ne hD.2.2.2.1 gse (by decide)))).trans ((u3 j hj).2.2))))))⟩, (hn_n (Or.inl (hn_ne gdl gx (by decide)))).trans ((hn_n (Or.inl (hn_ne gdl gtp (by decide)))).trans ((hn_n (Or.inl (hn_ne gdl gud (by decide)))).trans ((hn_n (Or.inl (hn_ne gdl gye (by decide)))).trans ((hn_n (Or.inl (hn_ne gdl gse (by decide)))).trans ((hn_n (Or.inl (hn_ne gdl gse (by decide)))).trans (u4))))))⟩)
theorem r_X11_plain4 {G : mj_G} {M : mj_M} {B : Nat → Int} {n tp bc pl na ta ba wa oa : Nat} {tr br : Nat → Nat} {T : Nat → Nat × Nat × Int × List Int × Nat} {Q : mj_P} {d : Nat} {x sp nw pn dl fa sa ca se ye ud : Nat} (hA : rv_AT G M B n 900 tp bc pl na ta ba wa oa tr br T) (hX : rv_X G M x tp pl sp nw pn dl fa sa ca se ye ud) (hn : M.1 tp 1 = (n : Int)) (h : ∀ PL WA OA TO BI NA, rv_0 PL WA OA TO BI NA → sp_rows T (fun f a => ∀ M', rv_PF x tp pl na wa oa tr br M M' → Q (some (.inl (rv_vf a))) G M') (fun PL WA OA TO BI nm r => rv_pb PL → ∀ M', rv_PO x tp pl na wa oa sp nw pn dl fa sa ca se ye ud tr br PL WA OA TO BI nm M M' → rv_P2 dl fa sa ca se ye ud M' → Q (some (.inl (r : Int))) G M') (n + 1) PL WA OA TO BI (fun _ => []) 0 0) : mj_R mj_tab (d + 8) 138 [.inr (.inr (some x))] G M Q := by
  obtain ⟨⟨gtp, gbc, gpl, gna, gta, gba, gwa, goa, gtr, gbr, itr, ibr, r1, r2, r3, r4, r5, r6, r7, r8, rb, rw0, n1, n2, hIw⟩, hT⟩ := id hA
  obtain ⟨⟨gx, gsp, gnw, gse, gye, gud, hD⟩, x_x0, x_x1, x_x2, x_x5, x_sp0, x_nw0, x_nw1, x_nw2, x_nw3⟩ := id hX
  have gdl := hD.1
  refine ⟨Nat.le_of_ble_eq_true rfl, ?_⟩
  show wz (d + 7) mt_X11_plain.2.2.2.2.1 Q mt_X11_plain.2.2.2.2.1 [some (.inr (.inr (some x))), none, none] [] G M _ _
  refine w_aln rfl ?_
  refine w_gr gx rfl (by decide) rfl x_x2 ?_
  refine w_gr gsp rfl (by decide) rfl x_sp0 ?_
  refine w_asn ?_
  show wz _ _ _ _ [some (.inr (.inr (some x))), some (.inr (.inr (some pl))), none] _ _ _ _ _
  refine w_aln rfl ?_
  refine w_cv (st := []) rfl gpl rfl (Nat.le_of_ble_eq_true rfl) (fun kk h => h) (r_X3_clear (d := d + 6) (M0 := M) (PL := M.1 pl) (WA := M.1 wa) (OA := M.1 oa) (TO := fun s => M.1 (tr s)) (BI := fun s => M.1 (br s)) (NA := M.2.1 na) hA.1 ⟨rfl, rfl, rfl, fun _ _ => rfl, fun _ _ => rfl, rfl, fun _ _ _ _ _ _ => rfl, fun _ _ => rfl, rfl⟩ (fun PL WA OA TO BI NA M1 c1 z1 => ?_))
  obtain ⟨c5, c6, c7, c8, c9, c10, cf1, cf2, cf3⟩ := id c1
  have tpf : M1.1 tp = M.1 tp := cf1 tp (hn_ne gtp gpl (by decide)) (hn_ne gtp gwa (by decide)) (hn_ne gtp goa (by decide)) (fun t ht => hn_ne gtp (gtr t ht) (by decide)) (fun t ht => hn_ne gtp (gbr t ht) (by decide))
  refine w_aln rfl ?_
  refine w_gr gx rfl (by decide) rfl (by rw [cf3]; exact x_x0) ?_
  refine w_sp ?_
  refine w_cv (st := []) rfl gtp rfl (Nat.le_of_ble_eq_true rfl) (fun kk h => h) ⟨Nat.le_of_ble_eq_true rfl, ?_⟩
  show wz (d + 6) mt_X7_open.2.2.2.2.1 _ mt_X7_open.2.2.2.2.1 [some (.inr (.inr (some tp))), some (.inl 900)] [] _ _ _ _
  refine w_aln rfl ?_
  refine w_iln rfl ?_
  refine w_pi gtp rfl (by decide) rfl (fun q => by cases q) ?_
  refine w_aln rfl ?_
  refine w_ic ?_
  refine w_pi gtp rfl (by decide) rfl (fun q => by cases q) ?_
  refine w_aln rfl ?_
  refine w_ic ?_
  refine w_pi gtp rfl (by decide) rfl (fun q => by cases q) ?_
  refine w_aln rfl ?_
  refine w_ic ?_
  refine w_pi gtp rfl (by decide) rfl (fun q => by cases q) ?_
  refine w_ret ?_
  refine w_aln rfl ?_
  refine w_aln rfl ?_
  refine w_gr gx rfl (by decide) rfl (by show M1.2.2 x 0 = _; rw [cf3]; exact x_x0) ?_
  have e4 : ∀ b, b ≠ tp → (mj_p0 (mj_p0 (mj_p0 (mj_p0 M1 tp 10 900) tp 11 0) tp 2 0) tp 3 0).1 b = M1.1 b := fun b hb => (wz_c hb).trans ((wz_c hb).trans ((wz_c hb).trans (wz_c hb)))
  have n0 : ∀ s, s < 8 → NA s = rv_5 ((fun _ => []) s) ∧ rv_wo ((fun _ => []) s : List Int) := fun s hs => ⟨(z1.1 s hs).1, by show 0 ≤ 8; decide, fun y hy => by cases hy⟩
  have S0 : rv_S0 G M n 900 tp pl na wa oa tr br 0 PL WA OA TO BI (fun _ => []) (mj_p0 (mj_p0 (mj_p0 (mj_p0 M1 tp 10 900) tp 11 0) tp 2 0) tp 3 0) := ⟨⟨(hn_n (Or.inr (by decide))).trans ((hn_n (Or.inr (by decide))).trans ((hn_n (Or.inr (by decide))).trans ((hn_n (Or.inr (by decide))).trans ((congrFun tpf 1).trans hn)))), (hn_n (Or.inr (by decide))).trans ((hn_n (Or.inr (by decide))).trans ((hn_n (Or.inr (by decide))).trans hn_s)), (hn_n (Or.inr (by decide))).trans hn_s⟩, (hn_n (Or.inr (by decide))).trans ((hn_n (Or.inr (by decide))).trans hn_s), (e4 pl (hn_ne gpl gtp (by decide))).trans c5, (e4 wa (hn_ne gwa gtp (by decide))).trans c6, (e4 oa (hn_ne goa gtp (by decide))).trans c7, fun s hs => (e4 _ (hn_ne (gtr s hs) gtp (by decide))).trans (c8 s hs), fun s hs => (e4 _ (hn_ne (gbr s hs) gtp (by decide))).trans (c9 s hs), fun s hs => ⟨(congrFun c10 s).trans (n0 s hs).1, (n0 s hs).2⟩, fun a a1 a2 a3 a4 a5 a6 => (e4 a a1).trans (cf1 a a2 a3 a4 a5 a6), fun a a1 _ => cf2 a a1, fun a j _ => congrFun (congrFun cf3 a) j⟩
  refine w_cv (st := []) rfl gpl rfl (Nat.le_of_ble_eq_true rfl) (fun kk h => h) (r_X3_readRows (d := d) hA S0 ⟨by rw [z1.2.2.1]; decide, by rw [z1.2.2.1]; decide, by rw [z1.2.2.2.1]; decide, by rw [z1.2.2.2.1]; decide⟩ (sp_rows.mono (fun f a hf z M2 F2 => ?_) (fun PL2 WA2 OA2 TO2 BI2 nm2 r2 hk hb2 q2 M2 s2 => ?_) _ _ _ _ _ _ _ _ _ (h PL WA OA TO BI NA z1)))
  · exact r_qp_F hA hX F2 hf _ _
  · exact r_qp_O hA hX s2 (hk hb2) _ _
end
section
/-! ===== copies: rows for arraycopy, a PLAIN copied, contracts of two objects ===== -/
theorem w_cp0 {d : Nat} {full : List mj_E} {Q : mj_P} {rest : List mj_E} {L : mj_L} {st : List mj_V} {G : mj_G} {M : mj_M} {cb sb pc : Nat} {im : Int} {k w a b ta na tb nb : Nat} {sp dp n : Int} (ha : G a = (ta, na)) (hta : ta % 1000 = 100) (hb : G b = (tb, nb)) (htb : tb % 1000 = 100) (h9 : tb < 900000) (h1 : 0 ≤ sp) (h2 : 0 ≤ dp) (h3 : 0 ≤ n) (h4 : sp + n ≤ na) (h5 : dp + n ≤ nb) (h8 : mj_cat st ≤ 8) (kk : wz d full Q rest L st G (mj_cp0 M a b sp.toNat dp.toNat n.toNat) cb sb) : wz d full Q ((.invokestatic k, pc, [3, w], im) :: rest) L (.inl n :: .inl dp :: .inr (.inr (some b)) :: .inl sp :: .inr (.inr (some a)) :: st) G M cb sb := wz_st ⟨ta, na, ha, hta, tb, nb, hb, htb, h9, h1, h2, h3, h4, h5, h8, kk⟩
theorem w_cp1 {d : Nat} {full : List mj_E} {Q : mj_P} {rest : List mj_E} {L : mj_L} {st : List mj_V} {G : mj_G} {M : mj_M} {cb sb pc : Nat} {im : Int} {k w a b ta na tb nb : Nat} {sp dp n : Int} (ha : G a = (ta, na)) (hta : ta % 1000 = 103) (hb : G b = (tb, nb)) (htb : tb % 1000 = 103) (h9 : tb < 900000) (h1 : 0 ≤ sp) (h2 : 0 ≤ dp) (h3 : 0 ≤ n) (h4 : sp + n ≤ na) (h5 : dp + n ≤ nb) (h8 : mj_cat st ≤ 8) (kk : wz d full Q rest L st G (mj_cp1 M a b sp.toNat dp.toNat n.toNat) cb sb) : wz d full Q ((.invokestatic k, pc, [4, w], im) :: rest) L (.inl n :: .inl dp :: .inr (.inr (some b)) :: .inl sp :: .inr (.inr (some a)) :: st) G M cb sb := wz_st ⟨ta, na, ha, hta, tb, nb, hb, htb, h9, h1, h2, h3, h4, h5, h8, kk⟩
theorem cp0_o {M : mj_M} {a b x n : Nat} (h : x ≠ b) : (mj_cp0 M a b 0 0 n).1 x = M.1 x := funext fun _ => if_neg (fun e => h e.1)
theorem cp0_i {M : mj_M} {a b n j : Nat} (h : j < n) : (mj_cp0 M a b 0 0 n).1 b j = M.1 a j := (if_pos ⟨rfl, Nat.zero_le j, by omega⟩).trans (by rw [Nat.zero_add, Nat.sub_zero])
theorem cp1_o {M : mj_M} {a b x n : Nat} (h : x ≠ b) : (mj_cp1 M a b 0 0 n).2.1 x = M.2.1 x := funext fun _ => if_neg (fun e => h e.1)
theorem cp1_i {M : mj_M} {a b n j : Nat} (h : j < n) : (mj_cp1 M a b 0 0 n).2.1 b j = M.2.1 a j := (if_pos ⟨rfl, Nat.zero_le j, by omega⟩).trans (by rw [Nat.zero_add, Nat.sub_zero])
/-- a PLAIN's cells -/
def rv_K (G : mj_G) (M : mj_M) (pl na ta ba wa : Nat) (tr br : Nat → Nat) : Prop := G pl = (1004, 0) ∧ G na = (24103, 8) ∧ G ta = (25104, 8) ∧ G ba = (27104, 8) ∧ G wa = (29100, 12) ∧ (∀ t, t < 8 → G (tr t) = (26100, 9)) ∧ (∀ t, t < 8 → G (br t) = (28100, 12)) ∧ (∀ t s, t < 8 → s < 8 → tr t = tr s → t = s) ∧ (∀ t s, t < 8 → s < 8 → br t = br s → t = s) ∧ M.2.2 pl 0 = some na ∧ M.2.2 pl 1 = some ta ∧ M.2.2 pl 2 = some ba ∧ M.2.2 pl 3 = some wa ∧ (∀ t, t < 8 → M.2.2 ta t = some (tr t)) ∧ (∀ t, t < 8 → M.2.2 ba t = some (br t))
/-- two PLAINS apart -/
def rv_ap (pl na wa pl' na' wa' : Nat) (tr br tr' br' : Nat → Nat) : Prop := pl ≠ pl' ∧ na ≠ na' ∧ wa ≠ wa' ∧ (∀ t s, t < 8 → s < 8 → tr t ≠ tr' s) ∧ (∀ t s, t < 8 → s < 8 → br t ≠ br' s)
/-- one PLAIN copied to another (the first with dashes) -/
def rv_cp (pl na wa pl' na' wa' : Nat) (tr br tr' br' : Nat → Nat) (M M' : mj_M) : Prop := (∀ k, 4 ≤ k → k ≤ 9 → M'.1 pl' k = M.1 pl k) ∧ (∀ k, ¬ (4 ≤ k ∧ k ≤ 9) → M'.1 pl' k = M.1 pl' k) ∧ (∀ t, t < 8 → ∀ w, w < 9 → M'.1 (tr' t) w = M.1 (tr t) w) ∧ (∀ t, t < 8 → ∀ w, w < 12 → M'.1 (br' t) w = M.1 (br t) w) ∧ (∀ w, w < 12 → M'.1 wa' w = M.1 wa w) ∧ (∀ s, s < 8 → M'.2.1 na' s = M.2.1 na s) ∧ M'.2.2 = M.2.2 ∧ (∀ a, a ≠ na' → M'.2.1 a = M.2.1 a) ∧ (∀ a, a ≠ pl' → a ≠ wa' → (∀ t, t < 8 → a ≠ tr' t) → (∀ t, t < 8 → a ≠ br' t) → M'.1 a = M.1 a)
section CP
variable {G : mj_G} {M0 : mj_M} {pl na ta ba wa pl' na' ta' ba' wa' : Nat} {tr br tr' br' : Nat → Nat} {d : Nat} {Q : mj_P}
theorem r_cp_loop (hB : rv_K G M0 pl na ta ba wa tr br) (hA : rv_K G M0 pl' na' ta' ba' wa' tr' br') (hp : rv_ap pl na wa pl' na' wa' tr br tr' br') : ∀ (f t : Nat) (M : mj_M) (cb sb : Nat), t + f = 8 → M.2.2 = M0.2.2 → M.2.1 = M0.2.1 → (∀ a, (∀ s, s < 8 → a ≠ tr' s) → (∀ s, s < 8 → a ≠ br' s) → M.1 a = M0.1 a) → (∀ s, s < t → (∀ w, w < 9 → M.1 (tr' s) w = M0.1 (tr s) w) ∧ (∀ w, w < 12 → M.1 (br' s) w = M0.1 (br s) w)) → (∀ M', M'.2.2 = M0.2.2 → M'.2.1 = M0.2.1 → (∀ a, (∀ s, s < 8 → a ≠ tr' s) → (∀ s, s < 8 → a ≠ br' s) → M'.1 a = M0.1 a) → (∀ s, s < 8 → (∀ w, w < 9 → M'.1 (tr' s) w = M0.1 (tr s) w) ∧ (∀ w, w < 12 → M'.1 (br' s) w = M0.1 (br s) w)) → wz d mt_X3_copy.2.2.2.2.1 Q (mt_X3_copy.2.2.2.2.1.drop 39) [some (.inr (.inr (some pl'))), some (.inr (.inr (some pl))), some (.inl 8)] [] G M' cb sb) → wz d mt_X3_copy.2.2.2.2.1 Q (mt_X3_copy.2.2.2.2.1.drop 10) [some (.inr (.inr (some pl'))), some (.inr (.inr (some pl))), some (.inl (t : Int))] [] G M cb sb := by
  obtain ⟨gpl, gna, gta, gba, gwa, gtr, gbr, itr, ibr, b0, b1, b2, b3, bt, bb⟩ := hB
  obtain ⟨gpl', gna', gta', gba', gwa', gtr', gbr', itr', ibr', a0, a1, a2, a3, at', ab'⟩ := hA
  obtain ⟨p1, p2, p3, p4, p5⟩ := hp
  intro f
  induction f with
  | zero =>
    intro t M cb sb hk e2 e1 e0 hz kk
    have e : t = 8 := by omega
    subst e
    refine w_iln rfl ?_
    refine w_bp ?_
    refine w_cmge (fun c => ?_) (fun c => by exfalso; omega)
    exact kk M e2 e1 e0 hz
  | succ f ih =>
    intro t M cb sb hk e2 e1 e0 hz kk
    have ht : t < 8 := by omega
    have tt : ((t : Int)).toNat = t := by omega
    refine w_iln rfl ?_
    refine w_bp ?_
    refine w_cmge (fun c => by exfalso; omega) (fun c => ?_)
    refine w_aln rfl ?_
    refine w_gr gpl rfl (by decide) rfl (by rw [e2]; exact b1) ?_
    refine w_iln rfl ?_
    refine w_aald (b := tr t) gta rfl (by omega) (by show (t : Int) < ((8 : Nat) : Int); omega) (by rw [e2, tt]; exact bt t ht) ?_
    refine w_ic ?_
    refine w_aln rfl ?_
    refine w_gr gpl' rfl (by decide) rfl (by rw [e2]; exact a1) ?_
    refine w_iln rfl ?_
    refine w_aald (b := tr' t) gta' rfl (by omega) (by show (t : Int) < ((8 : Nat) : Int); omega) (by rw [e2, tt]; exact at' t ht) ?_
    refine w_ic ?_
    refine w_bp ?_
    refine w_cp0 (gtr t ht) rfl (gtr' t ht) rfl (by decide) (by decide) (by decide) (by decide) (by decide) (by decide) (Nat.zero_le 8) ?_
    refine w_aln rfl ?_
    refine w_gr gpl rfl (by decide) rfl (by show M.2.2 pl 2 = _; rw [e2]; exact b2) ?_
    refine w_iln rfl ?_
    refine w_aald (b := br t) gba rfl (by omega) (by show (t : Int) < ((8 : Nat) : Int); omega) (by show M.2.2 ba _ = _; rw [e2, tt]; exact bb t ht) ?_
    refine w_ic ?_
    refine w_aln rfl ?_
    refine w_gr gpl' rfl (by decide) rfl (by show M.2.2 pl' 2 = _; rw [e2]; exact a2) ?_
    refine w_iln rfl ?_
    refine w_aald (b := br' t) gba' rfl (by omega) (by show (t : Int) < ((8 : Nat) : Int); omega) (by show M.2.2 ba' _ = _; rw [e2, tt]; exact ab' t ht) ?_
    refine w_ic ?_
    refine w_bp ?_
    refine w_cp0 (gbr t ht) rfl (gbr' t ht) rfl (by decide) (by decide) (by decide) (by decide) (by decide) (by decide) (Nat.zero_le 8) ?_
    refine w_ii rfl ⟨by omega, by omega⟩ ?_
    refine w_goto ?_
    have fr : ∀ a, a ≠ tr' t → a ≠ br' t → (mj_cp0 (mj_cp0 M (tr t) (tr' t) 0 0 9) (br t) (br' t) 0 0 12).1 a = M.1 a := fun a n1 n2 => (cp0_o n2).trans (cp0_o n1)
    refine ih (t + 1) (mj_cp0 (mj_cp0 M (tr t) (tr' t) 0 0 9) (br t) (br' t) 0 0 12) _ _ (by omega) e2 e1 (fun a n1 n2 => (fr a (n1 t ht) (n2 t ht)).trans (e0 a n1 n2)) (fun s hs => ?_) kk
    by_cases c1 : s = t
    · subst c1
      refine ⟨fun w hw => ?_, fun w hw => ?_⟩
      · rw [cp0_o (hn_ne (gtr' s ht) (gbr' s ht) (by decide)), cp0_i hw]
        exact congrFun (e0 _ (fun q hq => p4 s q ht hq) (fun q hq => hn_ne (gtr s ht) (gbr' q hq) (by decide))) w
      · rw [cp0_i hw, cp0_o (hn_ne (gbr s ht) (gtr' s ht) (by decide))]
        exact congrFun (e0 _ (fun q hq => hn_ne (gbr s ht) (gtr' q hq) (by decide)) (fun q hq => p5 s q ht hq)) w
    · have hs8 : s < 8 := by omega
      obtain ⟨z1, z2⟩ := hz s (by omega)
      refine ⟨fun w hw => ?_, fun w hw => ?_⟩
      · rw [fr _ (fun e => c1 (itr' s t hs8 ht e)) (hn_ne (gtr' s hs8) (gbr' t ht) (by decide))]; exact z1 w hw
      · rw [fr _ (hn_ne (gbr' s hs8) (gtr' t ht) (by decide)) (fun e => c1 (ibr' s t hs8 ht e))]; exact z2 w hw
theorem r_X3_copy {M : mj_M} (hB : rv_K G M pl na ta ba wa tr br) (hA : rv_K G M pl' na' ta' ba' wa' tr' br') (hp : rv_ap pl na wa pl' na' wa' tr br tr' br') (hQ : ∀ M', rv_cp pl na wa pl' na' wa' tr br tr' br' M M' → Q none G M') : mj_R mj_tab (d + 1) 32 [.inr (.inr (some pl')), .inr (.inr (some pl))] G M Q := by
  obtain ⟨gpl, gna, gta, gba, gwa, gtr, gbr, itr, ibr, b0, b1, b2, b3, bt, bb⟩ := id hB
  obtain ⟨gpl', gna', gta', gba', gwa', gtr', gbr', itr', ibr', a0, a1, a2, a3, at', ab'⟩ := id hA
  obtain ⟨p1, p2, p3, p4, p5⟩ := id hp
  refine ⟨Nat.le_of_ble_eq_true rfl, ?_⟩
  show wz d mt_X3_copy.2.2.2.2.1 Q mt_X3_copy.2.2.2.2.1 [some (.inr (.inr (some pl'))), some (.inr (.inr (some pl))), none] [] G M _ _
  refine w_aln rfl ?_
  refine w_gr gpl rfl (by decide) rfl b0 ?_
  refine w_ic ?_
  refine w_aln rfl ?_
  refine w_gr gpl' rfl (by decide) rfl a0 ?_
  refine w_ic ?_
  refine w_bp ?_
  refine w_cp1 gna rfl gna' rfl (by decide) (by decide) (by decide) (by decide) (by decide) (by decide) (Nat.zero_le 8) ?_
  refine w_ic ?_
  refine w_isn ?_
  have kB : rv_K G (mj_cp1 M na na' 0 0 8) pl na ta ba wa tr br := hB
  have kA : rv_K G (mj_cp1 M na na' 0 0 8) pl' na' ta' ba' wa' tr' br' := hA
  refine r_cp_loop kB kA hp 8 0 (mj_cp1 M na na' 0 0 8) _ _ (by omega) rfl rfl (fun _ _ _ => rfl) (fun s hs => absurd hs (Nat.not_lt_zero s)) (fun M1 e2 e1 e0 hz => ?_)
  have e0' : ∀ a, (∀ s, s < 8 → a ≠ tr' s) → (∀ s, s < 8 → a ≠ br' s) → M1.1 a = M.1 a := e0
  refine w_aln rfl ?_
  refine w_gr gpl rfl (by decide) rfl (by rw [e2]; exact b3) ?_
  refine w_ic ?_
  refine w_aln rfl ?_
  refine w_gr gpl' rfl (by decide) rfl (by rw [e2]; exact a3) ?_
  refine w_ic ?_
  refine w_bp ?_
  refine w_cp0 gwa rfl gwa' rfl (by decide) (by decide) (by decide) (by decide) (by decide) (by decide) (Nat.zero_le 8) ?_
  have hpl : M1.1 pl = M.1 pl := e0' pl (fun s hs => hn_ne gpl (gtr' s hs) (by decide)) (fun s hs => hn_ne gpl (gbr' s hs) (by decide))
  have hpl' : M1.1 pl' = M.1 pl' := e0' pl' (fun s hs => hn_ne gpl' (gtr' s hs) (by decide)) (fun s hs => hn_ne gpl' (gbr' s hs) (by decide))
  have hwa : M1.1 wa = M.1 wa := e0' wa (fun s hs => hn_ne gwa (gtr' s hs) (by decide)) (fun s hs => hn_ne gwa (gbr' s hs) (by decide))
  have q0 : ∀ k, (mj_cp0 M1 wa wa' 0 0 12).1 pl k = M.1 pl k := fun k => congrFun ((cp0_o (hn_ne gpl gwa' (by decide))).trans hpl) k
  refine w_aln rfl ?_
  refine w_aln rfl ?_
  refine w_gi gpl rfl (by decide) rfl (v := M.1 pl 4) (q0 4) ?_
  refine w_pi gpl' rfl (by decide) rfl (fun q => by cases q) ?_
  refine w_aln rfl ?_
  refine w_aln rfl ?_
  refine w_gi gpl rfl (by decide) rfl (v := M.1 pl 5) ((hn_n (Or.inl p1)).trans (q0 5)) ?_
  refine w_pi gpl' rfl (by decide) rfl (fun q => by cases q) ?_
  refine w_aln rfl ?_
  refine w_aln rfl ?_
  refine w_gi gpl rfl (by decide) rfl (v := M.1 pl 6) ((hn_n (Or.inl p1)).trans ((hn_n (Or.inl p1)).trans (q0 6))) ?_
  refine w_pi gpl' rfl (by decide) rfl (fun q => by cases q) ?_
  refine w_aln rfl ?_
  refine w_aln rfl ?_
  refine w_gi gpl rfl (by decide) rfl (v := M.1 pl 7) ((hn_n (Or.inl p1)).trans ((hn_n (Or.inl p1)).trans ((hn_n (Or.inl p1)).trans (q0 7)))) ?_
  refine w_pi gpl' rfl (by decide) rfl (fun q => by cases q) ?_
  refine w_aln rfl ?_
  refine w_aln rfl ?_
  refine w_gi gpl rfl (by decide) rfl (v := M.1 pl 8) ((hn_n (Or.inl p1)).trans ((hn_n (Or.inl p1)).trans ((hn_n (Or.inl p1)).trans ((hn_n (Or.inl p1)).trans (q0 8))))) ?_
  refine w_pi gpl' rfl (by decide) rfl (fun q => by cases q) ?_
  refine w_aln rfl ?_
  refine w_aln rfl ?_
  refine w_gi gpl rfl (by decide) rfl (v := M.1 pl 9) ((hn_n (Or.inl p1)).trans ((hn_n (Or.inl p1)).trans ((hn_n (Or.inl p1)).trans ((hn_n (Or.inl p1)).trans ((hn_n (Or.inl p1)).trans (q0 9)))))) ?_
  refine w_pi gpl' rfl (by decide) rfl (fun q => by cases q) ?_
  have r1 : ∀ a, a ≠ pl' → (mj_p0 (mj_p0 (mj_p0 (mj_p0 (mj_p0 (mj_p0 (mj_cp0 M1 wa wa' 0 0 12) pl' 4 (M.1 pl 4)) pl' 5 (M.1 pl 5)) pl' 6 (M.1 pl 6)) pl' 7 (M.1 pl 7)) pl' 8 (M.1 pl 8)) pl' 9 (M.1 pl 9)).1 a = (mj_cp0 M1 wa wa' 0 0 12).1 a := fun a ha => (wz_c ha).trans ((wz_c ha).trans ((wz_c ha).trans ((wz_c ha).trans ((wz_c ha).trans (wz_c ha)))))
  refine w_ret (hQ _ ⟨fun k k1 k2 => ?_, fun k hk => ?_, fun t ht w hw => ?_, fun t ht w hw => ?_, fun w hw => ?_, fun s hs => ?_, e2, fun a ha => ?_, fun a n1 n2 n3 n4 => ?_⟩)
  · have : k = 4 ∨ k = 5 ∨ k = 6 ∨ k = 7 ∨ k = 8 ∨ k = 9 := by omega
    rcases this with rfl | rfl | rfl | rfl | rfl | rfl
    · exact (hn_n (Or.inr (by decide))).trans ((hn_n (Or.inr (by decide))).trans ((hn_n (Or.inr (by decide))).trans ((hn_n (Or.inr (by decide))).trans ((hn_n (Or.inr (by decide))).trans (hn_s)))))
    · exact (hn_n (Or.inr (by decide))).trans ((hn_n (Or.inr (by decide))).trans ((hn_n (Or.inr (by decide))).trans ((hn_n (Or.inr (by decide))).trans (hn_s))))
    · exact (hn_n (Or.inr (by decide))).trans ((hn_n (Or.inr (by decide))).trans ((hn_n (Or.inr (by decide))).trans (hn_s)))
    · exact (hn_n (Or.inr (by decide))).trans ((hn_n (Or.inr (by decide))).trans (hn_s))
    · exact (hn_n (Or.inr (by decide))).trans (hn_s)
    · exact hn_s
  · exact (hn_n (Or.inr (by omega))).trans ((hn_n (Or.inr (by omega))).trans ((hn_n (Or.inr (by omega))).trans ((hn_n (Or.inr (by omega))).trans ((hn_n (Or.inr (by omega))).trans ((hn_n (Or.inr (by omega))).trans ((congrFun (cp0_o (hn_ne gpl' gwa' (by decide))) k).trans (congrFun hpl' k)))))))
  · exact (congrFun (r1 _ (hn_ne (gtr' t ht) gpl' (by decide))) w).trans ((congrFun (cp0_o (hn_ne (gtr' t ht) gwa' (by decide))) w).trans ((hz t ht).1 w hw))
  · exact (congrFun (r1 _ (hn_ne (gbr' t ht) gpl' (by decide))) w).trans ((congrFun (cp0_o (hn_ne (gbr' t ht) gwa' (by decide))) w).trans ((hz t ht).2 w hw))
  · exact (congrFun (r1 _ (hn_ne gwa' gpl' (by decide))) w).trans ((cp0_i hw).trans (congrFun hwa w))
  · show M1.2.1 na' s = _
    rw [e1]; exact cp1_i hs
  · show M1.2.1 a = _
    rw [e1]; exact cp1_o ha
  · exact (r1 a n1).trans ((cp0_o n2).trans (e0' a n3 n4))
end CP
theorem lw_R2g {G : mj_G} {o o' t t' n : Nat} {f : Nat → Int} (ho : G o = (t, 0)) (ho' : G o' = (t', 0)) (h0 : t ≠ 0) (h1 : t ≠ 1) (h50 : t ≠ 50) (h0' : t' ≠ 0) (h1' : t' ≠ 1) (h50' : t' ≠ 50) : ab_RR (n, f, 2, lw_w2 o o') G [(t, 0), (t', 0)] := ⟨rfl, fun i q h => by
  cases i with
  | zero =>
    cases h
    exact Or.inr (Or.inr (Or.inr ⟨h0, h1, h50, o, rfl, ho⟩))
  | succ i => cases i with
    | zero =>
      cases h
      exact Or.inr (Or.inr (Or.inr ⟨h0', h1', h50', o', rfl, ho'⟩))
    | succ i => cases h⟩
/-- a contract of two objects that answers nothing -/
theorem lw_cc {c : ab_co} {t t' o o' dd : Nat} {G : mj_G} {M : mj_M} {Q : mj_P} (hok : ab_ok c) (hp : ab_p c = ([], [(t, 0), (t', 0)], [], [some (.inr (.inr 0)), some (.inr (.inr 1))])) (hd : ab_h c ≤ dd) (ho : G o = (t, 0)) (ho' : G o' = (t', 0)) (h0 : t ≠ 0) (h1 : t ≠ 1) (h50 : t ≠ 50) (h0' : t' ≠ 0) (h1' : t' ≠ 1) (h50' : t' ≠ 50) (hr : (ab_o c).all (fun po => po.1.isNone) = true) (hI : ab_Inv G M) (hQ : ∀ M', ab_Inv G M' → ab_frm (ab_w c) G M M' → Q none G M') : mj_R mj_tab (dd + 1) (ab_y c) [.inr (.inr (some o)), .inr (.inr (some o'))] G M Q := by
  refine hok dd hd G M (0, hn_g [], 2, lw_w2 o o') _ Q (by rw [hp]; exact hn_Y0) (by rw [hp]; exact lw_R2g ho ho' h0 h1 h50 h0' h1' h50') (by rw [hp]; exact fun e he => by cases he) (by rw [hp]; exact ⟨_, _, rfl, ⟨Nat.le_of_ble_eq_true rfl, rfl⟩, _, _, rfl, ⟨Nat.le_of_ble_eq_true rfl, rfl⟩, rfl⟩) hI (fun r M' i f ⟨po, hpo, h⟩ => ?_)
  have hn := List.all_eq_true.mp hr po hpo
  obtain ⟨p, ms⟩ := po
  cases p with
  | some p => cases hn
  | none =>
    have hr : r = none := h.1
    rw [hr]; exact hQ M' i f
end
section
/-! ===== a STATE copied: its PLAIN told ===== -/
theorem lq_and {dd y : Nat} {av : List mj_V} {G : mj_G} {M : mj_M} {R R' Q : mj_P} (hk : an_ok mj_tab dd y = true) (h1 : mj_R mj_tab dd y av G M R) (h2 : mj_R mj_tab dd y av G M R') (h : ∀ r G M, R r G M → R' r G M → Q r G M) : mj_R mj_tab dd y av G M Q := mj_R_mo mj_tab dd _ _ _ _ _ _ (fun r G M q => h r G M q.1 q.2) (an_R mj_tab dd y av G M R R' hk h1 h2)
/-- an array copied whole to one of its role keeps the roles -/
theorem hn_cp {G : mj_G} {M : mj_M} {a b t n k : Nat} (hI : ab_Inv G M) (ha : G a = (t, n)) (hb : G b = (t, n)) : ab_Inv G (mj_cp0 M a b 0 0 k) := by
  refine ⟨fun x j => ?_, hI.2⟩
  by_cases e : x = b ∧ 0 ≤ j ∧ j < 0 + k
  · rw [show (mj_cp0 M a b 0 0 k).1 x j = M.1 a (0 + (j - 0)) from if_pos e, e.1, hb, Nat.zero_add, Nat.sub_zero]
    have := hI.1 a j
    rw [ha] at this
    exact this
  · rw [show (mj_cp0 M a b 0 0 k).1 x j = M.1 x j from if_neg e]; exact hI.1 x j
/-- cells of a STATE that belong to no PLAIN -/
def rv_no (t : Nat) : Prop := t ≠ 1002 ∧ t ≠ 16100 ∧ t ≠ 17100 ∧ t ≠ 18100 ∧ t ≠ 1006 ∧ t ≠ 34105 ∧ t ≠ 35100 ∧ t ≠ 36100 ∧ t ≠ 1010 ∧ t ≠ 42100 ∧ t ≠ 43100 ∧ t ≠ 44100 ∧ t ≠ 46100
/-- a STATE copied, as far as its PLAIN goes -/
def rv_cq (G : mj_G) (pl wa pl' wa' : Nat) (tr br tr' br' : Nat → Nat) (M M' : mj_M) : Prop := (∀ k, 4 ≤ k → k ≤ 9 → M'.1 pl' k = M.1 pl k) ∧ (∀ t, t < 8 → ∀ w, w < 9 → M'.1 (tr' t) w = M.1 (tr t) w) ∧ (∀ t, t < 8 → ∀ w, w < 12 → M'.1 (br' t) w = M.1 (br t) w) ∧ (∀ w, w < 12 → M'.1 wa' w = M.1 wa w) ∧ (∀ a k, rv_no (G a).1 → M'.2.2 a k = M.2.2 a k) ∧ (∀ a, rv_no (G a).1 → a ≠ pl' → a ≠ wa' → (∀ t, t < 8 → a ≠ tr' t) → (∀ t, t < 8 → a ≠ br' t) → M'.1 a = M.1 a)
theorem ab_k30 : an_ok mj_tab 38 32 = true := by decide +kernel
set_option maxRecDepth 100000 in
theorem r_X6_copy {G : mj_G} {M : mj_M} {pl na ta ba wa pl' na' ta' ba' wa' st st' : Nat} {tr br tr' br' : Nat → Nat} {Q : mj_P} (hI : ab_Inv G M) (gs : G st = (1007, 0)) (gs' : G st' = (1007, 0)) (s0 : M.2.2 st 0 = some pl) (s0' : M.2.2 st' 0 = some pl') (hB : rv_K G M pl na ta ba wa tr br) (hA : rv_K G M pl' na' ta' ba' wa' tr' br') (hp : rv_ap pl na wa pl' na' wa' tr br tr' br') (hQ : ∀ M', ab_Inv G M' → rv_cq G pl wa pl' wa' tr br tr' br' M M' → Q none G M') : mj_R mj_tab 39 67 [.inr (.inr (some st')), .inr (.inr (some st))] G M Q := by
  have gpl := hB.1
  have gpl' := hA.1
  obtain ⟨dl, d1, gdl⟩ := hn_rf (k := 1) (q := (1002, 0)) hI gs rfl (by decide) (by decide) (by decide) (fun e => absurd e (by decide))
  obtain ⟨dl', d1', gdl'⟩ := hn_rf (k := 1) (q := (1002, 0)) hI gs' rfl (by decide) (by decide) (by decide) (fun e => absurd e (by decide))
  obtain ⟨se, e1, gse⟩ := hn_rf (k := 2) (q := (1006, 0)) hI gs rfl (by decide) (by decide) (by decide) (fun e => absurd e (by decide))
  obtain ⟨se', e1', gse'⟩ := hn_rf (k := 2) (q := (1006, 0)) hI gs' rfl (by decide) (by decide) (by decide) (fun e => absurd e (by decide))
  obtain ⟨ye, y1, gye⟩ := hn_rf (k := 3) (q := (1010, 0)) hI gs rfl (by decide) (by decide) (by decide) (fun e => absurd e (by decide))
  obtain ⟨ye', y1', gye'⟩ := hn_rf (k := 3) (q := (1010, 0)) hI gs' rfl (by decide) (by decide) (by decide) (fun e => absurd e (by decide))
  obtain ⟨fa, f0, gfa⟩ := hn_rf (k := 0) (q := (16100, 12)) hI gdl rfl (by decide) (by decide) (by decide) (fun e => absurd e (by decide))
  obtain ⟨sa, f1, gsa⟩ := hn_rf (k := 1) (q := (17100, 12)) hI gdl rfl (by decide) (by decide) (by decide) (fun e => absurd e (by decide))
  obtain ⟨ca, f2, gca⟩ := hn_rf (k := 2) (q := (18100, 12)) hI gdl rfl (by decide) (by decide) (by decide) (fun e => absurd e (by decide))
  obtain ⟨fa', f0', gfa'⟩ := hn_rf (k := 0) (q := (16100, 12)) hI gdl' rfl (by decide) (by decide) (by decide) (fun e => absurd e (by decide))
  obtain ⟨sa', f1', gsa'⟩ := hn_rf (k := 1) (q := (17100, 12)) hI gdl' rfl (by decide) (by decide) (by decide) (fun e => absurd e (by decide))
  obtain ⟨ca', f2', gca'⟩ := hn_rf (k := 2) (q := (18100, 12)) hI gdl' rfl (by decide) (by decide) (by decide) (fun e => absurd e (by decide))
  refine ⟨Nat.le_of_ble_eq_true rfl, ?_⟩
  show wz 38 mt_X6_copy.2.2.2.2.1 Q mt_X6_copy.2.2.2.2.1 [some (.inr (.inr (some st'))), some (.inr (.inr (some st)))] [] G M _ _
  refine w_aln rfl ?_
  refine w_gr gs' rfl (by decide) rfl s0' ?_
  refine w_aln rfl ?_
  refine w_gr gs rfl (by decide) rfl s0 ?_
  refine w_cv (st := []) rfl gpl' rfl (Nat.le_of_ble_eq_true rfl) (fun kk h => h) (lq_and ab_k30 (lw_cc (c := cd_30) (dd := 37) (Q := fun r G' M' => r = none ∧ G = G' ∧ ab_Inv G M') (ab_all_ok 214 (Nat.le_refl _) 30 (by decide)) rfl (by decide +kernel) gpl' gpl (by decide) (by decide) (by decide) (by decide) (by decide) (by decide) (by decide +kernel) hI (fun M' i f => ⟨rfl, rfl, i⟩)) (r_X3_copy (d := 37) (Q := fun _ _ M' => rv_cp pl na wa pl' na' wa' tr br tr' br' M M') hB hA hp (fun M' h => h)) (fun r G' M1 h1 h2 => ?_))
  obtain ⟨rfl, rfl, I1⟩ := h1
  obtain ⟨c1, c2, c3, c4, c5, c6, c7, c8, c9⟩ := h2
  refine w_aln rfl ?_
  refine w_gr gs' rfl (by decide) rfl (by rw [c7]; exact d1') ?_
  refine w_aln rfl ?_
  refine w_gr gs rfl (by decide) rfl (by rw [c7]; exact d1) ?_
  refine w_cv (st := []) rfl gdl' rfl (Nat.le_of_ble_eq_true rfl) (fun kk h => h) ⟨Nat.le_of_ble_eq_true rfl, ?_⟩
  show wz 37 mt_X1_copy.2.2.2.2.1 _ mt_X1_copy.2.2.2.2.1 [some (.inr (.inr (some dl'))), some (.inr (.inr (some dl)))] [] _ _ _ _
  refine w_aln rfl ?_
  refine w_gr gdl rfl (by decide) rfl (by rw [c7]; exact f0) ?_
  refine w_ic ?_
  refine w_aln rfl ?_
  refine w_gr gdl' rfl (by decide) rfl (by rw [c7]; exact f0') ?_
  refine w_ic ?_
  refine w_bp ?_
  refine w_cp0 gfa rfl gfa' rfl (by decide) (by decide) (by decide) (by decide) (by decide) (by decide) (Nat.zero_le 8) ?_
  refine w_aln rfl ?_
  refine w_gr gdl rfl (by decide) rfl (by show M1.2.2 dl 1 = _; rw [c7]; exact f1) ?_
  refine w_ic ?_
  refine w_aln rfl ?_
  refine w_gr gdl' rfl (by decide) rfl (by show M1.2.2 dl' 1 = _; rw [c7]; exact f1') ?_
  refine w_ic ?_
  refine w_bp ?_
  refine w_cp0 gsa rfl gsa' rfl (by decide) (by decide) (by decide) (by decide) (by decide) (by decide) (Nat.zero_le 8) ?_
  refine w_aln rfl ?_
  refine w_gr gdl rfl (by decide) rfl (by show M1.2.2 dl 2 = _; rw [c7]; exact f2) ?_
  refine w_ic ?_
  refine w_aln rfl ?_
  refine w_gr gdl' rfl (by decide) rfl (by show M1.2.2 dl' 2 = _; rw [c7]; exact f2') ?_
  refine w_ic ?_
  refine w_bp ?_
  refine w_cp0 gca rfl gca' rfl (by decide) (by decide) (by decide) (by decide) (by decide) (by decide) (Nat.zero_le 8) ?_
  refine w_aln rfl ?_
  refine w_aln rfl ?_
  refine w_gi gdl rfl (by decide) rfl rfl ?_
  refine w_pi gdl' rfl (by decide) rfl (fun q => by cases q) ?_
  refine w_ret ?_
  have I2 : ab_Inv G (mj_cp0 (mj_cp0 (mj_cp0 M1 fa fa' 0 0 12) sa sa' 0 0 12) ca ca' 0 0 12) := hn_cp (hn_cp (hn_cp I1 gfa gfa') gsa gsa') gca gca'
  have I3 : ab_Inv G (mj_p0 (mj_cp0 (mj_cp0 (mj_cp0 M1 fa fa' 0 0 12) sa sa' 0 0 12) ca ca' 0 0 12) dl' 3 ((mj_cp0 (mj_cp0 (mj_cp0 M1 fa fa' 0 0 12) sa sa' 0 0 12) ca ca' 0 0 12).1 dl 3)) := I2.p0 (by
    have h3 := I2.1 dl 3
    rw [gdl] at h3
    rw [gdl']
    exact h3)
  have k3 : ∀ a, rv_no (G a).1 → (mj_p0 (mj_cp0 (mj_cp0 (mj_cp0 M1 fa fa' 0 0 12) sa sa' 0 0 12) ca ca' 0 0 12) dl' 3 ((mj_cp0 (mj_cp0 (mj_cp0 M1 fa fa' 0 0 12) sa sa' 0 0 12) ca ca' 0 0 12).1 dl 3)).1 a = M1.1 a := fun a hn => (wz_c (fun e => hn.1 (by rw [e, gdl']))).trans ((cp0_o (fun e => hn.2.2.2.1 (by rw [e, gca']))).trans ((cp0_o (fun e => hn.2.2.1 (by rw [e, gsa']))).trans (cp0_o (fun e => hn.2.1 (by rw [e, gfa'])))))
  generalize hM2 : mj_p0 (mj_cp0 (mj_cp0 (mj_cp0 M1 fa fa' 0 0 12) sa sa' 0 0 12) ca ca' 0 0 12) dl' 3 ((mj_cp0 (mj_cp0 (mj_cp0 M1 fa fa' 0 0 12) sa sa' 0 0 12) ca ca' 0 0 12).1 dl 3) = M2 at I3 k3
  have r2 : M2.2.2 = M.2.2 := by rw [← hM2]; exact c7
  show wz 38 mt_X6_copy.2.2.2.2.1 Q (mt_X6_copy.2.2.2.2.1.drop 10) [some (.inr (.inr (some st'))), some (.inr (.inr (some st)))] [] G (mj_p0 (mj_cp0 (mj_cp0 (mj_cp0 M1 fa fa' 0 0 12) sa sa' 0 0 12) ca ca' 0 0 12) dl' 3 ((mj_cp0 (mj_cp0 (mj_cp0 M1 fa fa' 0 0 12) sa sa' 0 0 12) ca ca' 0 0 12).1 dl 3)) _ _
  rw [hM2]
  refine w_aln rfl ?_
  refine w_gr gs' rfl (by decide) rfl (by rw [r2]; exact e1') ?_
  refine w_aln rfl ?_
  refine w_gr gs rfl (by decide) rfl (by rw [r2]; exact e1) ?_
  refine w_cv (st := []) rfl gse' rfl (Nat.le_of_ble_eq_true rfl) (fun kk h => h) (lw_cc (c := cd_33) (dd := 37) (ab_all_ok 214 (Nat.le_refl _) 33 (by decide)) rfl (by decide +kernel) gse' gse (by decide) (by decide) (by decide) (by decide) (by decide) (by decide) (by decide +kernel) I3 (fun M3 I4 w3 => ?_))
  have n3 : ∀ a k, rv_no (G a).1 ∨ (G a).1 = 1010 → M3.1 a k = M2.1 a k ∧ M3.2.2 a k = M2.2.2 a k := fun a k hn => w3 a k (fun ⟨q, hq, g, _⟩ => by
    have key : ∀ q ∈ ab_w cd_33, q.1 = 1006 ∨ q.1 = 34105 ∨ q.1 = 35100 ∨ q.1 = 36100 := by decide +kernel
    have hk := key q hq
    rw [g] at hk
    unfold rv_no at hn
    omega)
  refine w_aln rfl ?_
  refine w_gr gs' rfl (by decide) rfl (((n3 st' 3 (Or.inl (by rw [gs']; unfold rv_no; decide))).2).trans (by rw [r2]; exact y1')) ?_
  refine w_aln rfl ?_
  refine w_gr gs rfl (by decide) rfl (((n3 st 3 (Or.inl (by rw [gs]; unfold rv_no; decide))).2).trans (by rw [r2]; exact y1)) ?_
  refine w_cv (st := []) rfl gye' rfl (Nat.le_of_ble_eq_true rfl) (fun kk h => h) (lw_cc (c := cd_6) (dd := 37) (ab_all_ok 214 (Nat.le_refl _) 6 (by decide)) rfl (by decide +kernel) gye' gye (by decide) (by decide) (by decide) (by decide) (by decide) (by decide) (by decide +kernel) I4 (fun M4 I5 w4 => ?_))
  have n4 : ∀ a k, rv_no (G a).1 → M4.1 a k = M3.1 a k ∧ M4.2.2 a k = M3.2.2 a k := fun a k hn => w4 a k (fun ⟨q, hq, g, _⟩ => by
    have key : ∀ q ∈ ab_w cd_6, q.1 = 1010 ∨ q.1 = 42100 ∨ q.1 = 43100 ∨ q.1 = 44100 ∨ q.1 = 46100 := by decide +kernel
    have hk := key q hq
    rw [g] at hk
    unfold rv_no at hn
    omega)
  have no : ∀ a, rv_no (G a).1 → M4.1 a = M1.1 a := fun a hn => funext fun k => (n4 a k hn).1.trans ((n3 a k (Or.inl hn)).1.trans (congrFun (k3 a hn) k))
  have gwa' := hA.2.2.2.2.1
  have gtr' := hA.2.2.2.2.2.1
  have gbr' := hA.2.2.2.2.2.2.1
  refine w_ret (hQ M4 I5 ⟨fun k k1 k2 => ?_, fun t ht w hw => ?_, fun t ht w hw => ?_, fun w hw => ?_, fun a k hn => ?_, fun a hn a1 a2 a3 a4 => ?_⟩)
  · rw [no pl' (by rw [gpl']; unfold rv_no; decide)]; exact c1 k k1 k2
  · rw [no _ (by rw [gtr' t ht]; unfold rv_no; decide)]; exact c3 t ht w hw
  · rw [no _ (by rw [gbr' t ht]; unfold rv_no; decide)]; exact c4 t ht w hw
  · rw [no _ (by rw [gwa']; unfold rv_no; decide)]; exact c5 w hw
  · exact (n4 a k hn).2.trans ((n3 a k (Or.inl hn)).2.trans (congrFun (congrFun r2 a) k))
  · rw [no a hn]; exact c9 a a1 a2 a3 a4
end
section
/-! ===== where the PLAINS lie; the class's image and restore with their PLAINS ===== -/
theorem w_zast {d : Nat} {full : List mj_E} {Q : mj_P} {rest : List mj_E} {L : mj_L} {st : List mj_V} {G : mj_G} {M : mj_M} {cb sb pc : Nat} {aux : List Nat} {im : Int} {a t n : Nat} {i v : Int} (hv : v = 0 ∨ v = 1) (ha : G a = (t, n)) (ht : t % 1000 = 102) (h9 : t < 900000) (h0 : 0 ≤ i) (h1 : i < n) (kk : wz d full Q rest L st G (mj_p0 M a i.toNat v) cb sb) : wz d full Q ((.bastore, pc, aux, im) :: rest) L (.inl v :: .inl i :: .inr (.inr (some a)) :: st) G M cb sb := wz_st (Or.inr ⟨hv, t, n, ha, ht, h9, h0, h1, kk⟩)
theorem w_zald {d : Nat} {full : List mj_E} {Q : mj_P} {rest : List mj_E} {L : mj_L} {st : List mj_V} {G : mj_G} {M : mj_M} {cb sb pc : Nat} {aux : List Nat} {im : Int} {a t n : Nat} {i v : Int} (ha : G a = (t, n)) (ht : t % 1000 = 102) (h0 : 0 ≤ i) (h1 : i < n) (hv : M.1 a i.toNat = v) (kk : wz d full Q rest L (.inl v :: st) G M cb sb) : wz d full Q ((.baload, pc, aux, im) :: rest) L (.inl i :: .inr (.inr (some a)) :: st) G M cb sb := wz_st (Or.inr ⟨t, n, ha, ht, h0, h1, by rw [← hv] at kk; exact kk⟩)
def lq_Ps : List Nat := [30, 75, 247, 292]
theorem lq_P4 {P : Nat} (h : P ∈ lq_Ps) : P = 30 ∨ P = 75 ∨ P = 247 ∨ P = 292 := by
  simp [lq_Ps] at h; exact h
def lq_A (G : mj_G) (w : Nat → Nat) : Prop := (∀ i j, i < 361 → j < 361 → w i = w j → i = j) ∧ (∀ P, P ∈ lq_Ps → G (w P) = (1004, 0) ∧ G (w (P + 1)) = (24103, 8) ∧ G (w (P + 2)) = (25104, 8) ∧ G (w (P + 11)) = (27104, 8) ∧ G (w (P + 20)) = (29100, 12) ∧ (∀ t, t < 8 → G (w (P + 3 + t)) = (26100, 9)) ∧ (∀ t, t < 8 → G (w (P + 12 + t)) = (28100, 12))) ∧ G (w 29) = (1007, 0) ∧ G (w 74) = (1007, 0) ∧ G (w 246) = (1007, 0) ∧ G (w 291) = (1007, 0) ∧ G (w 119) = (47106, 2)
def lq_B (M : mj_M) (w : Nat → Nat) (x : Nat) : Prop := (∀ P, P ∈ lq_Ps → M.2.2 (w P) 0 = some (w (P + 1)) ∧ M.2.2 (w P) 1 = some (w (P + 2)) ∧ M.2.2 (w P) 2 = some (w (P + 11)) ∧ M.2.2 (w P) 3 = some (w (P + 20)) ∧ (∀ t, t < 8 → M.2.2 (w (P + 2)) t = some (w (P + 3 + t))) ∧ (∀ t, t < 8 → M.2.2 (w (P + 11)) t = some (w (P + 12 + t)))) ∧ M.2.2 x 1 = some (w 29) ∧ M.2.2 x 2 = some (w 74) ∧ M.2.2 x 3 = some (w 119) ∧ M.2.2 (w 119) 0 = some (w 246) ∧ M.2.2 (w 119) 1 = some (w 291) ∧ M.2.2 (w 246) 0 = some (w 247) ∧ M.2.2 (w 291) 0 = some (w 292)
def lq_N (M : mj_M) (w : Nat → Nat) (p q : Nat) : Prop := M.2.2 (w 29) 0 = some (w p) ∧ M.2.2 (w 74) 0 = some (w q) ∧ ((p = 30 ∧ q = 75) ∨ (p = 75 ∧ q = 30))
theorem lq_K {G : mj_G} {M : mj_M} {w : Nat → Nat} {x P : Nat} (hA : lq_A G w) (hB : lq_B M w x) (hP : P ∈ lq_Ps) : rv_K G M (w P) (w (P + 1)) (w (P + 2)) (w (P + 11)) (w (P + 20)) (fun t => w (P + 3 + t)) (fun t => w (P + 12 + t)) := by
  obtain ⟨g1, g2, g3, g4, g5, g6, g7⟩ := hA.2.1 P hP
  obtain ⟨b1, b2, b3, b4, b5, b6⟩ := hB.1 P hP
  have h4 := lq_P4 hP
  exact ⟨g1, g2, g3, g4, g5, g6, g7, fun t s ht hs e => by have := hA.1 _ _ (by omega) (by omega) e; omega, fun t s ht hs e => by have := hA.1 _ _ (by omega) (by omega) e; omega, b1, b2, b3, b4, b5, b6⟩
theorem lq_ap {G : mj_G} {w : Nat → Nat} {P P' : Nat} (hA : lq_A G w) (hP : P ∈ lq_Ps) (hP' : P' ∈ lq_Ps) (hne : P ≠ P') : rv_ap (w P) (w (P + 1)) (w (P + 20)) (w P') (w (P' + 1)) (w (P' + 20)) (fun t => w (P + 3 + t)) (fun t => w (P + 12 + t)) (fun t => w (P' + 3 + t)) (fun t => w (P' + 12 + t)) := by
  have h4 := lq_P4 hP
  have h4' := lq_P4 hP'
  refine ⟨fun e => ?_, fun e => ?_, fun e => ?_, fun t s ht hs e => ?_, fun t s ht hs e => ?_⟩
  all_goals
    have := hA.1 _ _ (by omega) (by omega) e
    omega
/-- one PLAIN's cells over another's, all else of PLAINS as it was -/
def lq_cp (G : mj_G) (w : Nat → Nat) (P P' : Nat) (M M' : mj_M) : Prop := rv_cq G (w P) (w (P + 20)) (w P') (w (P' + 20)) (fun t => w (P + 3 + t)) (fun t => w (P + 12 + t)) (fun t => w (P' + 3 + t)) (fun t => w (P' + 12 + t)) M M'
section IM
variable {G : mj_G} {M : mj_M} {w : Nat → Nat} {x p q kc : Nat} {z1 : Int} {Q : mj_P}
def lq_ip (k : Nat) : Nat := if k = 0 then 247 else 292
theorem lq_ip_in (k : Nat) : lq_ip k ∈ lq_Ps := by unfold lq_ip; split <;> decide
theorem lq_N.pin (hN : lq_N M w p q) : p ∈ lq_Ps ∧ (∀ k, p ≠ lq_ip k) := by
  rcases hN.2.2 with ⟨rfl, -⟩ | ⟨rfl, -⟩
  · exact ⟨by decide, fun k => by unfold lq_ip; split <;> decide⟩
  · exact ⟨by decide, fun k => by unfold lq_ip; split <;> decide⟩
theorem lq_im (hA : lq_A G w) (hB : lq_B M w x) (k : Nat) (hk : k < 2) : ∃ st, M.2.2 (w 119) k = some st ∧ G st = (1007, 0) ∧ M.2.2 st 0 = some (w (lq_ip k)) := by
  have : k = 0 ∨ k = 1 := by omega
  rcases this with rfl | rfl
  · exact ⟨w 246, hB.2.2.2.2.1, hA.2.2.2.2.1, hB.2.2.2.2.2.2.1⟩
  · exact ⟨w 291, hB.2.2.2.2.2.1, hA.2.2.2.2.2.1, hB.2.2.2.2.2.2.2⟩
theorem r_X11_image4 (hI : ab_Inv G M) (gx : G x = (1011, 0)) (hA : lq_A G w) (hB : lq_B M w x) (hN : lq_N M w p q) (x4 : M.2.2 x 4 = some kc) (gkc : G kc = (48102, 2)) (h0 : ¬ (0 ≤ z1 ∧ z1 ≤ 1) → Q (some (.inl 0)) G M) (h1 : ∀ k : Nat, k < 2 → z1 = (k : Int) → ∀ M1, lq_cp G w p (lq_ip k) M M1 → Q (some (.inl 1)) G (mj_p0 M1 kc k 1)) : mj_R mj_tab 40 127 [.inr (.inr (some x)), .inl z1] G M Q := by
  have g119 := hA.2.2.2.2.2.2
  refine ⟨Nat.le_of_ble_eq_true rfl, ?_⟩
  show wz 39 mt_X11_image.2.2.2.2.1 Q mt_X11_image.2.2.2.2.1 [some (.inr (.inr (some x))), some (.inl z1)] [] G M _ _
  refine w_iln rfl ?_
  refine w_iflt (fun c => ?_) (fun c => ?_)
  · refine w_ic ?_
    exact w_iret (fun _ => Or.inl rfl) (h0 (by omega))
  · refine w_iln rfl ?_
    refine w_ic ?_
    refine w_cmlt (fun c2 => ?_) (fun c2 => ?_)
    · obtain ⟨k, hk, ek⟩ : ∃ k : Nat, k < 2 ∧ z1 = (k : Int) := ⟨z1.toNat, by omega, by omega⟩
      subst ek
      obtain ⟨st, s1, gst, s0⟩ := lq_im hA hB k hk
      have tk : ((k : Int)).toNat = k := by omega
      refine w_aln rfl ?_
      refine w_gr gx rfl (by decide) rfl hB.2.2.2.1 ?_
      refine w_iln rfl ?_
      refine w_aald (b := st) g119 rfl (by omega) (by show (k : Int) < ((2 : Nat) : Int); omega) (by rw [tk]; exact s1) ?_
      refine w_aln rfl ?_
      refine w_gr gx rfl (by decide) rfl hB.2.1 ?_
      refine w_cv (st := []) rfl gst rfl (Nat.le_of_ble_eq_true rfl) (fun kk h => h) (r_X6_copy hI hA.2.2.1 gst hN.1 s0 (lq_K hA hB hN.pin.1) (lq_K hA hB (lq_ip_in k)) (lq_ap hA hN.pin.1 (lq_ip_in k) (hN.pin.2 k)) (fun M1 I1 h => ?_))
      refine w_aln rfl ?_
      refine w_gr gx rfl (by decide) rfl ((h.2.2.2.2.1 x 4 (by rw [gx]; unfold rv_no; decide)).trans x4) ?_
      refine w_iln rfl ?_
      refine w_ic ?_
      refine w_zast (Or.inr rfl) gkc rfl (by decide) (by omega) (by show (k : Int) < ((2 : Nat) : Int); omega) ?_
      refine w_ic ?_
      refine w_iret (fun _ => Or.inr rfl) ?_
      rw [tk]
      exact h1 k hk rfl M1 h
    · refine w_ic ?_
      exact w_iret (fun _ => Or.inl rfl) (h0 (by omega))
theorem r_X11_restore4 {ud : Nat} (hI : ab_Inv G M) (gx : G x = (1011, 0)) (hA : lq_A G w) (hB : lq_B M w x) (hN : lq_N M w p q) (x4 : M.2.2 x 4 = some kc) (gkc : G kc = (48102, 2)) (x5 : M.2.2 x 5 = some ud) (gud : G ud = (1009, 0)) (h0 : (¬ (0 ≤ z1 ∧ z1 ≤ 1) ∨ ∃ k : Nat, k < 2 ∧ z1 = (k : Int) ∧ M.1 kc k = 0) → Q (some (.inl 0)) G M) (h1 : ∀ k : Nat, k < 2 → z1 = (k : Int) → M.1 kc k ≠ 0 → ∀ M1, lq_cp G w (lq_ip k) p M M1 → Q (some (.inl 1)) G (mj_p0 M1 ud 3 0)) : mj_R mj_tab 40 144 [.inr (.inr (some x)), .inl z1] G M Q := by
  have g119 := hA.2.2.2.2.2.2
  refine ⟨Nat.le_of_ble_eq_true rfl, ?_⟩
  show wz 39 mt_X11_restore.2.2.2.2.1 Q mt_X11_restore.2.2.2.2.1 [some (.inr (.inr (some x))), some (.inl z1)] [] G M _ _
  refine w_iln rfl ?_
  refine w_iflt (fun c => ?_) (fun c => ?_)
  · refine w_ic ?_
    exact w_iret (fun _ => Or.inl rfl) (h0 (Or.inl (by omega)))
  · refine w_iln rfl ?_
    refine w_ic ?_
    refine w_cmge (fun c2 => ?_) (fun c2 => ?_)
    · refine w_ic ?_
      exact w_iret (fun _ => Or.inl rfl) (h0 (Or.inl (by omega)))
    · obtain ⟨k, hk, ek⟩ : ∃ k : Nat, k < 2 ∧ z1 = (k : Int) := ⟨z1.toNat, by omega, by omega⟩
      subst ek
      obtain ⟨st, s1, gst, s0⟩ := lq_im hA hB k hk
      have tk : ((k : Int)).toNat = k := by omega
      refine w_aln rfl ?_
      refine w_gr gx rfl (by decide) rfl x4 ?_
      refine w_iln rfl ?_
      refine w_zald (v := M.1 kc k) gkc rfl (by omega) (by show (k : Int) < ((2 : Nat) : Int); omega) (by rw [tk]) ?_
      refine w_ifne (fun c3 => ?_) (fun c3 => ?_)
      · refine w_aln rfl ?_
        refine w_gr gx rfl (by decide) rfl hB.2.1 ?_
        refine w_aln rfl ?_
        refine w_gr gx rfl (by decide) rfl hB.2.2.2.1 ?_
        refine w_iln rfl ?_
        refine w_aald (b := st) g119 rfl (by omega) (by show (k : Int) < ((2 : Nat) : Int); omega) (by rw [tk]; exact s1) ?_
        refine w_cv (st := []) rfl hA.2.2.1 rfl (Nat.le_of_ble_eq_true rfl) (fun kk h => h) (r_X6_copy hI gst hA.2.2.1 s0 hN.1 (lq_K hA hB (lq_ip_in k)) (lq_K hA hB hN.pin.1) (lq_ap hA (lq_ip_in k) hN.pin.1 (fun e => hN.pin.2 k e.symm)) (fun M1 I1 h => ?_))
        refine w_aln rfl ?_
        refine w_gr gx rfl (by decide) rfl ((h.2.2.2.2.1 x 5 (by rw [gx]; unfold rv_no; decide)).trans x5) ?_
        refine w_ic ?_
        refine w_pi gud rfl (by decide) rfl (fun q => by cases q) ?_
        refine w_ic ?_
        exact w_iret (fun _ => Or.inr rfl) (h1 k hk rfl c3 M1 h)
      · refine w_ic ?_
        exact w_iret (fun _ => Or.inl rfl) (h0 (Or.inr ⟨k, hk, rfl, c3⟩))
end IM
end
section
/-! ===== the class's worth: the PLAIN now stays ===== -/
def lw_w3 (a b c : Nat) : Nat → Option Nat := fun i => match i with
  | 0 => some a
  | 1 => some b
  | _ => some c
theorem lw_R3 {G : mj_G} {a b c t t' t'' n : Nat} {f : Nat → Int} (ha : G a = (t, 0)) (hb : G b = (t', 0)) (hc : G c = (t'', 0)) (h : t ≠ 0 ∧ t ≠ 1 ∧ t ≠ 50 ∧ t' ≠ 0 ∧ t' ≠ 1 ∧ t' ≠ 50 ∧ t'' ≠ 0 ∧ t'' ≠ 1 ∧ t'' ≠ 50) : ab_RR (n, f, 3, lw_w3 a b c) G [(t, 0), (t', 0), (t'', 0)] := ⟨rfl, fun i q e => by
  cases i with
  | zero =>
    cases e
    exact Or.inr (Or.inr (Or.inr ⟨h.1, h.2.1, h.2.2.1, a, rfl, ha⟩))
  | succ i => cases i with
    | zero =>
      cases e
      exact Or.inr (Or.inr (Or.inr ⟨h.2.2.2.1, h.2.2.2.2.1, h.2.2.2.2.2.1, b, rfl, hb⟩))
    | succ i => cases i with
      | zero =>
        cases e
        exact Or.inr (Or.inr (Or.inr ⟨h.2.2.2.2.2.2.1, h.2.2.2.2.2.2.2.1, h.2.2.2.2.2.2.2.2, c, rfl, hc⟩))
      | succ i => cases e⟩
theorem r_goOn {G : mj_G} {M : mj_M} {ye pl dl : Nat} {z : Int} {Q : mj_P} (hI : ab_Inv G M) (gye : G ye = (1010, 0)) (gpl : G pl = (1004, 0)) (gdl : G dl = (1002, 0)) (hz : 0 ≤ z ∧ z ≤ 12) (hQ : ∀ M', ab_Inv G M' → ab_frm (ab_w cd_139) G M M' → Q none G M') : mj_R mj_tab 38 93 [.inr (.inr (some ye)), .inr (.inr (some pl)), .inr (.inr (some dl)), .inl z] G M Q := by
  refine ab_all_ok 214 (Nat.le_refl _) 139 (by decide) 37 (by decide +kernel) G M (1, hn_g [z], 3, lw_w3 ye pl dl) _ Q (hn_Y1 hz) (lw_R3 gye gpl gdl (by decide)) (fun e he => by cases he) ⟨_, _, rfl, ⟨Nat.le_of_ble_eq_true rfl, rfl⟩, _, _, rfl, ⟨Nat.le_of_ble_eq_true rfl, rfl⟩, _, _, rfl, ⟨Nat.le_of_ble_eq_true rfl, rfl⟩, _, _, rfl, ⟨_, rfl, hn_I (Nat.le_of_ble_eq_true rfl) rfl⟩, rfl⟩ hI (fun r M' i f ⟨po, hpo, h⟩ => ?_)
  cases hpo with
  | head =>
    have hr : r = none := h.1
    rw [hr]; exact hQ M' i f
  | tail _ hpo => cases hpo
theorem rv_no_W {G : mj_G} {M M' : mj_M} {W : List (Nat × Nat × Nat)} (f : ab_frm W G M M') (key : ∀ q ∈ W, q.1 = 1010 ∨ q.1 = 42100 ∨ q.1 = 43100 ∨ q.1 = 44100 ∨ q.1 = 46100) (a k : Nat) (hn : rv_no (G a).1 ∨ (G a).1 = 1002) : M'.1 a k = M.1 a k ∧ M'.2.2 a k = M.2.2 a k := f a k (fun ⟨q, hq, g, _⟩ => by
  have hk := key q hq
  rw [g] at hk
  unfold rv_no at hn
  omega)
theorem r_tryY {G : mj_G} {M : mj_M} {x pl : Nat} {Q : mj_P} (hI : ab_Inv G M) (gx : G x = (1011, 0)) (gpl : G pl = (1004, 0)) (hQ : ∀ M', ab_Inv G M' → (∀ a k, rv_no (G a).1 → M'.1 a k = M.1 a k ∧ M'.2.2 a k = M.2.2 a k) → Q none G M') : mj_R mj_tab 39 153 [.inr (.inr (some x)), .inr (.inr (some pl))] G M Q := by
  obtain ⟨ye, x9, gye⟩ := hn_rf (k := 9) (q := (1010, 0)) hI gx rfl (by decide) (by decide) (by decide) (fun e => absurd e (by decide))
  obtain ⟨nw, x1, gnw⟩ := hn_rf (k := 1) (q := (1007, 0)) hI gx rfl (by decide) (by decide) (by decide) (fun e => absurd e (by decide))
  obtain ⟨dl, w1, gdl⟩ := hn_rf (k := 1) (q := (1002, 0)) hI gnw rfl (by decide) (by decide) (by decide) (fun e => absurd e (by decide))
  refine ⟨Nat.le_of_ble_eq_true rfl, ?_⟩
  show wz 38 mt_X11_tryYear.2.2.2.2.1 Q mt_X11_tryYear.2.2.2.2.1 [some (.inr (.inr (some x))), some (.inr (.inr (some pl)))] [] G M _ _
  refine w_aln rfl ?_
  refine w_gr gx rfl (by decide) rfl x9 ?_
  refine w_aln rfl ?_
  refine w_cv (st := []) rfl gye rfl (Nat.le_of_ble_eq_true rfl) (fun kk h => h) (lw_cc (c := cd_9) (dd := 37) (ab_all_ok 214 (Nat.le_refl _) 9 (by decide)) rfl (by decide +kernel) gye gpl (by decide) (by decide) (by decide) (by decide) (by decide) (by decide) (by decide +kernel) hI (fun M1 I1 f1 => ?_))
  have n1 := rv_no_W f1 (by decide +kernel)
  refine w_aln rfl ?_
  refine w_gr gx rfl (by decide) rfl ((n1 x 9 (Or.inl (by rw [gx]; unfold rv_no; decide))).2.trans x9) ?_
  refine w_aln rfl ?_
  refine w_aln rfl ?_
  refine w_gr gx rfl (by decide) rfl ((n1 x 1 (Or.inl (by rw [gx]; unfold rv_no; decide))).2.trans x1) ?_
  refine w_gr gnw rfl (by decide) rfl ((n1 nw 1 (Or.inl (by rw [gnw]; unfold rv_no; decide))).2.trans w1) ?_
  refine w_bp ?_
  refine w_cv (st := []) rfl gye rfl (Nat.le_of_ble_eq_true rfl) (fun kk h => h) (r_goOn I1 gye gpl gdl ⟨by decide, by decide⟩ (fun M2 I2 f2 => ?_))
  have n2 := rv_no_W f2 (by decide +kernel)
  exact w_ret (hQ M2 I2 (fun a k hn => ⟨(n2 a k (Or.inl hn)).1.trans (n1 a k (Or.inl hn)).1, (n2 a k (Or.inl hn)).2.trans (n1 a k (Or.inl hn)).2⟩))
/-- what worth leaves: all but the spare PLAIN -/
def lq_u (G : mj_G) (w : Nat → Nat) (q : Nat) (M M' : mj_M) : Prop := (∀ a k, rv_no (G a).1 → M'.2.2 a k = M.2.2 a k) ∧ (∀ a, rv_no (G a).1 → (∀ j, j < 22 → a ≠ w (q + j)) → M'.1 a = M.1 a)
theorem lq_u.tr {G : mj_G} {w : Nat → Nat} {q : Nat} {M M' M'' : mj_M} (h : lq_u G w q M M') (h' : lq_u G w q M' M'') : lq_u G w q M M'' := ⟨fun a k hn => (h'.1 a k hn).trans (h.1 a k hn), fun a hn hj => (h'.2 a hn hj).trans (h.2 a hn hj)⟩
section WO
variable {G : mj_G} {M : mj_M} {w : Nat → Nat} {x p q : Nat} {z1 : Int} {Q : mj_P}
theorem lq_N.qin (hN : lq_N M w p q) : q ∈ lq_Ps ∧ p ≠ q := by
  rcases hN.2.2 with ⟨rfl, rfl⟩ | ⟨rfl, rfl⟩
  · exact ⟨by decide, by decide⟩
  · exact ⟨by decide, by decide⟩
theorem lq_no29 (hA : lq_A G w) : rv_no (G (w 29)).1 ∧ rv_no (G (w 74)).1 := by
  rw [hA.2.2.1, hA.2.2.2.1]; unfold rv_no; decide
theorem ab_k32 : an_ok mj_tab 39 32 = true := by decide +kernel
theorem lq_B.no {M' : mj_M} (hB : lq_B M w x) (hA : lq_A G w) (gx : G x = (1011, 0)) (h : ∀ a k, rv_no (G a).1 → M'.2.2 a k = M.2.2 a k) : lq_B M' w x := by
  obtain ⟨h1, h2, h3, h4, h5, h6, h7, h8⟩ := hB
  have nx : rv_no (G x).1 := by rw [gx]; unfold rv_no; decide
  have n119 : rv_no (G (w 119)).1 := by rw [hA.2.2.2.2.2.2]; unfold rv_no; decide
  have n246 : rv_no (G (w 246)).1 := by rw [hA.2.2.2.2.1]; unfold rv_no; decide
  have n291 : rv_no (G (w 291)).1 := by rw [hA.2.2.2.2.2.1]; unfold rv_no; decide
  refine ⟨fun P hP => ?_, (h _ _ nx).trans h2, (h _ _ nx).trans h3, (h _ _ nx).trans h4, (h _ _ n119).trans h5, (h _ _ n119).trans h6, (h _ _ n246).trans h7, (h _ _ n291).trans h8⟩
  obtain ⟨g1, -, g3, g4, -⟩ := hA.2.1 P hP
  obtain ⟨b1, b2, b3, b4, b5, b6⟩ := h1 P hP
  have nP : rv_no (G (w P)).1 := by rw [g1]; unfold rv_no; decide
  have n2 : rv_no (G (w (P + 2))).1 := by rw [g3]; unfold rv_no; decide
  have n11 : rv_no (G (w (P + 11))).1 := by rw [g4]; unfold rv_no; decide
  exact ⟨(h _ _ nP).trans b1, (h _ _ nP).trans b2, (h _ _ nP).trans b3, (h _ _ nP).trans b4, fun t ht => (h _ _ n2).trans (b5 t ht), fun t ht => (h _ _ n11).trans (b6 t ht)⟩
theorem r_setBid0 {t k : Nat} {M1 : mj_M} (hA : lq_A G w) (hq : q ∈ lq_Ps) (r2 : M1.2.2 (w q) 2 = some (w (q + 11))) (rt : M1.2.2 (w (q + 11)) t = some (w (q + 12 + t))) (I1 : ab_Inv G M1) (ht : t < 8) (hk : k < 12) (hQ : ∀ M', ab_Inv G M' → lq_u G w q M1 M' → Q none G M') : mj_R mj_tab 39 47 [.inr (.inr (some (w q))), .inl (t : Int), .inl (k : Int), .inl 0] G M1 Q := by
  have h4 := lq_P4 hq
  obtain ⟨gq, -, -, gba, -, -, gbr⟩ := hA.2.1 q hq
  have gb := gbr t ht
  have noq : rv_no (G (w q)).1 := by rw [gq]; unfold rv_no; decide
  have noba : rv_no (G (w (q + 11))).1 := by rw [gba]; unfold rv_no; decide
  have tt : ((t : Int)).toNat = t := by omega
  refine ⟨Nat.le_of_ble_eq_true rfl, ?_⟩
  show wz 38 mt_X3_setBid.2.2.2.2.1 Q mt_X3_setBid.2.2.2.2.1 [some (.inr (.inr (some (w q)))), some (.inl (t : Int)), some (.inl (k : Int)), some (.inl 0)] [] G M1 _ _
  have tail : ∀ (M2 : mj_M) (cb sb : Nat), ab_Inv G M2 → lq_u G w q M1 M2 → wz 38 mt_X3_setBid.2.2.2.2.1 Q (mt_X3_setBid.2.2.2.2.1.drop 13) [some (.inr (.inr (some (w q)))), some (.inl (t : Int)), some (.inl (k : Int)), some (.inl 0)] [] G M2 cb sb := by
    intro M2 cb sb I2 u2
    refine w_iln rfl ?_
    refine w_ifle (fun _ => ?_) (fun c => absurd c (by decide))
    refine w_aln rfl ?_
    refine w_gr gq rfl (by decide) rfl ((u2.1 _ _ noq).trans r2) ?_
    refine w_iln rfl ?_
    refine w_aald (b := w (q + 12 + t)) gba rfl (by omega) (by show (t : Int) < ((8 : Nat) : Int); omega) (by rw [tt]; exact (u2.1 _ _ noba).trans rt) ?_
    refine w_iln rfl ?_
    refine w_iln rfl ?_
    refine w_iast gb rfl (by decide) (by omega) (by show (k : Int) < ((12 : Nat) : Int); omega) ?_
    refine w_ret (hQ _ (I2.p0 (by rw [gb]; exact hn_ii (z := 0) ⟨by decide, by decide⟩)) ⟨u2.1, fun a hn hj => (wz_c (fun e => hj (12 + t) (by omega) (by rw [e, Nat.add_assoc]))).trans (u2.2 a hn hj)⟩)
  refine w_aln rfl ?_
  refine w_gr gq rfl (by decide) rfl r2 ?_
  refine w_iln rfl ?_
  refine w_aald (b := w (q + 12 + t)) gba rfl (by omega) (by show (t : Int) < ((8 : Nat) : Int); omega) (by rw [tt]; exact rt) ?_
  refine w_iln rfl ?_
  refine w_iald gb rfl (by omega) (by show (k : Int) < ((12 : Nat) : Int); omega) rfl ?_
  refine w_ifle (fun _ => tail M1 _ _ I1 ⟨fun _ _ _ => rfl, fun _ _ _ => rfl⟩) (fun _ => ?_)
  refine w_aln rfl ?_
  refine w_dupr ?_
  refine w_gi gq rfl (by decide) rfl rfl ?_
  refine w_ic ?_
  refine w_subw ?_
  intro z hz ez
  refine w_pi gq rfl (by decide) rfl (fun q => by cases q) ?_
  exact tail _ _ _ (I1.p0 (by rw [gq]; exact hn_ii hz)) ⟨fun _ _ _ => rfl, fun a hn hj => wz_c (fun e => hj 0 (by omega) (by rw [e]; rfl))⟩
/-- the loop that takes a town's bids from the spare PLAIN -/
theorem r_wo_loop {t : Nat} {z2 : Int} (gx : G x = (1011, 0)) (hA : lq_A G w) (hB : lq_B M w x) (hN : lq_N M w p q) (ht : t < 8) : ∀ (f k : Nat) (M1 : mj_M) (cb sb : Nat), k + f = 12 → ab_Inv G M1 → lq_u G w q M M1 → (∀ M', ab_Inv G M' → lq_u G w q M M' → wz 39 mt_X11_worth.2.2.2.2.1 Q (mt_X11_worth.2.2.2.2.1.drop 36) [some (.inr (.inr (some x))), some (.inl (t : Int)), some (.inl z2), some (.inl 12)] [] G M' cb sb) → wz 39 mt_X11_worth.2.2.2.2.1 Q (mt_X11_worth.2.2.2.2.1.drop 24) [some (.inr (.inr (some x))), some (.inl (t : Int)), some (.inl z2), some (.inl (k : Int))] [] G M1 cb sb := by
  have hq := hN.qin.1
  have h4 := lq_P4 hq
  obtain ⟨gq, -, -, gba, -, -, gbr⟩ := hA.2.1 q hq
  obtain ⟨-, -, b2, -, -, bb⟩ := hB.1 q hq
  have nox : rv_no (G x).1 := by rw [gx]; unfold rv_no; decide
  have noq : rv_no (G (w q)).1 := by rw [gq]; unfold rv_no; decide
  have noba : rv_no (G (w (q + 11))).1 := by rw [gba]; unfold rv_no; decide
  intro f
  induction f with
  | zero =>
    intro k M1 cb sb hk I1 u1 kk
    have e : k = 12 := by omega
    subst e
    refine w_iln rfl ?_
    refine w_bp ?_
    refine w_cmge (fun c => ?_) (fun c => by exfalso; omega)
    exact kk M1 I1 u1
  | succ f ih =>
    intro k M1 cb sb hk I1 u1 kk
    refine w_iln rfl ?_
    refine w_bp ?_
    refine w_cmge (fun c => by exfalso; omega) (fun c => ?_)
    refine w_aln rfl ?_
    refine w_gr gx rfl (by decide) rfl ((u1.1 x 2 nox).trans hB.2.2.1) ?_
    refine w_gr hA.2.2.2.1 rfl (by decide) rfl ((u1.1 (w 74) 0 (lq_no29 hA).2).trans hN.2.1) ?_
    refine w_iln rfl ?_
    refine w_iln rfl ?_
    refine w_ic ?_
    refine w_cv (st := []) rfl gq rfl (Nat.le_of_ble_eq_true rfl) (fun kk h => h) (r_setBid0 hA hq ((u1.1 _ _ noq).trans b2) ((u1.1 _ _ noba).trans (bb t ht)) I1 ht (by omega) (fun M2 I2 u2 => ?_))
    refine w_ii rfl ⟨by omega, by omega⟩ ?_
    refine w_goto ?_
    exact ih (k + 1) M2 _ _ (by omega) I2 (u1.tr u2) kk
set_option maxRecDepth 100000 in
theorem r_X11_worth4 (hI : ab_Inv G M) (gx : G x = (1011, 0)) (hA : lq_A G w) (hB : lq_B M w x) (hN : lq_N M w p q) (hQ : ∀ z M', lq_u G w q M M' → Q (some (.inl z)) G M') : mj_R mj_tab 40 157 [.inr (.inr (some x)), .inl z1] G M Q := by
  have hp := hN.pin.1
  have hq := hN.qin.1
  have h4 := lq_P4 hq
  obtain ⟨gp, -⟩ := hA.2.1 p hp
  obtain ⟨gq, -, -, -, gwq, gtq, gbq⟩ := hA.2.1 q hq
  have nox : rv_no (G x).1 := by rw [gx]; unfold rv_no; decide
  obtain ⟨ye, x9, gye⟩ := hn_rf (k := 9) (q := (1010, 0)) hI gx rfl (by decide) (by decide) (by decide) (fun e => absurd e (by decide))
  have b8 : 0 ≤ M.1 (w p) 4 ∧ M.1 (w p) 4 ≤ 8 := by
    have h := hI.1 (w p) 4
    rw [gp] at h
    exact h
  refine ⟨Nat.le_of_ble_eq_true rfl, ?_⟩
  show wz 39 mt_X11_worth.2.2.2.2.1 Q mt_X11_worth.2.2.2.2.1 [some (.inr (.inr (some x))), some (.inl z1), none, none] [] G M _ _
  refine w_aln rfl ?_
  refine w_iln rfl ?_
  refine w_cv (st := []) rfl gx rfl (Nat.le_of_ble_eq_true rfl) (fun kk h => h) ⟨Nat.le_of_ble_eq_true rfl, ?_⟩
  show wz 38 mt_X11_isTown.2.2.2.2.1 _ mt_X11_isTown.2.2.2.2.1 [some (.inr (.inr (some x))), some (.inl z1)] [] _ _ _ _
  have bad : ∀ (cb sb : Nat), wz 39 mt_X11_worth.2.2.2.2.1 Q (mt_X11_worth.2.2.2.2.1.drop 3) [some (.inr (.inr (some x))), some (.inl z1), none, none] [.inl 0] G M cb sb := by
    intro cb sb
    refine w_ifne (fun c => absurd rfl c) (fun _ => ?_)
    refine w_sp ?_
    exact w_iret (fun q => by cases q) (hQ _ M ⟨fun _ _ _ => rfl, fun _ _ _ => rfl⟩)
  refine w_iln rfl ?_
  refine w_iflt (fun c => ?_) (fun c => ?_)
  · refine w_ic ?_
    exact w_iret (fun _ => Or.inl rfl) (bad _ _)
  · refine w_iln rfl ?_
    refine w_aln rfl ?_
    refine w_gr gx rfl (by decide) rfl hB.2.1 ?_
    refine w_gr hA.2.2.1 rfl (by decide) rfl hN.1 ?_
    refine w_gi gp rfl (by decide) rfl rfl ?_
    refine w_cmge (fun c2 => ?_) (fun c2 => ?_)
    · refine w_ic ?_
      exact w_iret (fun _ => Or.inl rfl) (bad _ _)
    · obtain ⟨t, ht, et⟩ : ∃ t : Nat, t < 8 ∧ z1 = (t : Int) := ⟨z1.toNat, by omega, by omega⟩
      subst et
      refine w_ic ?_
      refine w_goto ?_
      refine w_iret (fun _ => Or.inr rfl) ?_
      refine w_ifne (fun _ => ?_) (fun c => absurd c (by decide))
      refine w_aln rfl ?_
      refine w_aln rfl ?_
      refine w_gr gx rfl (by decide) rfl hB.2.1 ?_
      refine w_gr hA.2.2.1 rfl (by decide) rfl hN.1 ?_
      refine w_cv (st := []) rfl gx rfl (Nat.le_of_ble_eq_true rfl) (fun kk h => h) (r_tryY hI gx gp (fun M1 I1 n1 => ?_))
      have u1 : lq_u G w q M M1 := ⟨fun a k hn => (n1 a k hn).2, fun a hn _ => funext fun k => (n1 a k hn).1⟩
      refine w_aln rfl ?_
      refine w_gr gx rfl (by decide) rfl ((u1.1 x 9 nox).trans x9) ?_
      refine w_gi gye rfl (by decide) rfl rfl ?_
      refine w_isn ?_
      refine w_aln rfl ?_
      refine w_gr gx rfl (by decide) rfl ((u1.1 x 2 nox).trans hB.2.2.1) ?_
      refine w_gr hA.2.2.2.1 rfl (by decide) rfl ((u1.1 (w 74) 0 (lq_no29 hA).2).trans hN.2.1) ?_
      refine w_aln rfl ?_
      refine w_gr gx rfl (by decide) rfl ((u1.1 x 1 nox).trans hB.2.1) ?_
      refine w_gr hA.2.2.1 rfl (by decide) rfl ((u1.1 (w 29) 0 (lq_no29 hA).1).trans hN.1) ?_
      have hB1 : lq_B M1 w x := hB.no hA gx u1.1
      refine w_cv (st := []) rfl gq rfl (Nat.le_of_ble_eq_true rfl) (fun kk h => h) (lq_and ab_k32 (lw_cc (c := cd_30) (dd := 38) (Q := fun r G' M' => r = none ∧ G = G' ∧ ab_Inv G M') (ab_all_ok 214 (Nat.le_refl _) 30 (by decide)) rfl (by decide +kernel) gq gp (by decide) (by decide) (by decide) (by decide) (by decide) (by decide) (by decide +kernel) I1 (fun M' i f => ⟨rfl, rfl, i⟩)) (r_X3_copy (d := 38) (Q := fun _ _ M' => rv_cp (w p) (w (p + 1)) (w (p + 20)) (w q) (w (q + 1)) (w (q + 20)) (fun t => w (p + 3 + t)) (fun t => w (p + 12 + t)) (fun t => w (q + 3 + t)) (fun t => w (q + 12 + t)) M1 M') (lq_K hA hB1 hp) (lq_K hA hB1 hq) (lq_ap hA hp hq hN.qin.2) (fun M' h => h)) (fun r G' M2 h1 h2 => ?_))
      obtain ⟨rfl, rfl, I2⟩ := h1
      obtain ⟨-, -, -, -, -, -, c7, -, c9⟩ := h2
      have u2 : lq_u G w q M M2 := u1.tr ⟨fun a k _ => by rw [c7], fun a hn hj => c9 a (hj 0 (by omega)) (hj 20 (by omega)) (fun t ht => by have := hj (3 + t) (by omega); rw [← Nat.add_assoc] at this; exact this) (fun t ht => by have := hj (12 + t) (by omega); rw [← Nat.add_assoc] at this; exact this)⟩
      refine w_ic ?_
      refine w_isn ?_
      refine r_wo_loop gx hA hB hN ht 12 0 M2 _ _ (by omega) I2 u2 (fun M3 I3 u3 => ?_)
      refine w_aln rfl ?_
      refine w_aln rfl ?_
      refine w_gr gx rfl (by decide) rfl ((u3.1 x 2 nox).trans hB.2.2.1) ?_
      refine w_gr hA.2.2.2.1 rfl (by decide) rfl ((u3.1 (w 74) 0 (lq_no29 hA).2).trans hN.2.1) ?_
      refine w_cv (st := []) rfl gx rfl (Nat.le_of_ble_eq_true rfl) (fun kk h => h) (r_tryY I3 gx gq (fun M4 I4 n4 => ?_))
      have u4 : lq_u G w q M M4 := u3.tr ⟨fun a k hn => (n4 a k hn).2, fun a hn _ => funext fun k => (n4 a k hn).1⟩
      refine w_iln rfl ?_
      refine w_aln rfl ?_
      refine w_gr gx rfl (by decide) rfl ((u4.1 x 9 nox).trans x9) ?_
      refine w_gi gye rfl (by decide) rfl rfl ?_
      refine w_subw ?_
      intro z hz ez
      exact w_iret (fun q => by cases q) (hQ _ M4 u4)
end WO
end
section
/-! ===== every text has one answer (laid by a program) ===== -/
abbrev rv_Om : Type := (Int × Nat) ⊕ ((Nat → Int) × (Nat → Int) × (Nat → Int) × (Nat → Nat → Int) × (Nat → Nat → Int) × (Nat → List Int) × Nat)
def rv_Dt (S : (rv_Om → Prop) → Prop) : Prop := ∃ y, ∀ P : rv_Om → Prop, P y → S P
theorem dt_f (f : Int) (a : Nat) : rv_Dt (fun P => P (.inl (f, a))) := ⟨_, fun _ h => h⟩
theorem dt_if {c : Prop} {A B : (rv_Om → Prop) → Prop} (hA : rv_Dt A) (hB : rv_Dt B) : rv_Dt (fun P => (c → A P) ∧ (¬ c → B P)) := by
  by_cases h : c
  · obtain ⟨y, hy⟩ := hA
    exact ⟨y, fun P p => ⟨fun _ => hy P p, fun n => absurd h n⟩⟩
  · obtain ⟨y, hy⟩ := hB
    exact ⟨y, fun P p => ⟨fun n => absurd n h, fun _ => hy P p⟩⟩
section DT
variable {T : Nat → Nat × Nat × Int × List Int × Nat} {p : Nat} {A : (rv_Om → Prop) → Prop}
theorem dt_num {lo hi : Int} (hA : rv_Dt A) : rv_Dt (fun P => sp_num T lo hi p (fun f a => P (.inl (f, a))) (A P)) := by
  obtain ⟨y, hy⟩ := hA
  by_cases c1 : (T p).1 = 2
  · by_cases c2 : lo ≤ (T p).2.2.1
    · by_cases c3 : (T p).2.2.1 ≤ hi
      · exact ⟨y, fun P k => ⟨fun _ => ⟨fun _ => ⟨fun _ => hy P k, fun n => absurd c3 n⟩, fun n => absurd c2 n⟩, fun n => absurd c1 n⟩⟩
      · exact ⟨.inl (2, (T p).2.1), fun P k => ⟨fun _ => ⟨fun _ => ⟨fun n => absurd n c3, fun _ => k⟩, fun n => absurd c2 n⟩, fun n => absurd c1 n⟩⟩
    · exact ⟨.inl (2, (T p).2.1), fun P k => ⟨fun _ => ⟨fun n => absurd n c2, fun _ => k⟩, fun n => absurd c1 n⟩⟩
  · exact ⟨.inl (1, (T p).2.1), fun P k => ⟨fun n => absurd n c1, fun _ => k⟩⟩
theorem dt_sgn {c : Int} (hA : rv_Dt A) : rv_Dt (fun P => sp_sgn T c p (fun f a => P (.inl (f, a))) (A P)) := by
  obtain ⟨y, hy⟩ := hA
  by_cases c1 : (T p).1 = 3
  · by_cases c2 : (T p).2.2.1 = c
    · exact ⟨y, fun P k => ⟨fun _ => ⟨fun _ => hy P k, fun n => absurd c2 n⟩, fun n => absurd c1 n⟩⟩
    · exact ⟨.inl (1, (T p).2.1), fun P k => ⟨fun _ => ⟨fun n => absurd n c2, fun _ => k⟩, fun n => absurd c1 n⟩⟩
  · exact ⟨.inl (1, (T p).2.1), fun P k => ⟨fun n => absurd n c1, fun _ => k⟩⟩
theorem dt_nam (hA : rv_Dt A) : rv_Dt (fun P => sp_nam T p (fun f a => P (.inl (f, a))) (A P)) := by
  obtain ⟨y, hy⟩ := hA
  by_cases c1 : (T p).1 = 1
  · by_cases c2 : rv_nam (T p).2.2.2.1
    · exact ⟨y, fun P k => ⟨fun _ => ⟨fun _ => hy P k, fun n => absurd c2 n⟩, fun n => absurd c1 n⟩⟩
    · exact ⟨.inl (1, (T p).2.1), fun P k => ⟨fun _ => ⟨fun n => absurd n c2, fun _ => k⟩, fun n => absurd c1 n⟩⟩
  · exact ⟨.inl (1, (T p).2.1), fun P k => ⟨fun n => absurd n c1, fun _ => k⟩⟩
theorem dt_find {nm : Nat → List Int} {k : Int} {w : List Int} {K : Int → (rv_Om → Prop) → Prop} (hK : ∀ r, rv_Dt (K r)) : rv_Dt (fun P => sp_find nm k w (fun r => K r P)) := by
  by_cases h : ∃ r : Nat, (r : Int) < k ∧ nm r = w ∧ ∀ j, j < r → nm j ≠ w
  · obtain ⟨r, h1, h2, h3⟩ := h
    obtain ⟨y, hy⟩ := hK (r : Int)
    refine ⟨y, fun P p => ⟨fun r' g1 g2 g3 => ?_, fun g => absurd h2 (g r h1)⟩⟩
    have e : r' = r := by
      rcases Nat.lt_trichotomy r' r with q | q | q
      · exact absurd g2 (h3 r' q)
      · exact q
      · exact absurd h2 (g3 r q)
    rw [e]; exact hy P p
  · obtain ⟨y, hy⟩ := hK (-1)
    exact ⟨y, fun P p => ⟨fun r' g1 g2 g3 => absurd ⟨r', g1, g2, g3⟩ h, fun _ => hy P p⟩⟩
theorem dt_town {PL WA OA : Nat → Int} {TO BI : Nat → Nat → Int} {nm : Nat → List Int} {q : Nat} {K : (Nat → Int) → (Nat → Int) → (Nat → Int) → (Nat → Nat → Int) → (Nat → Nat → Int) → (Nat → List Int) → Nat → (rv_Om → Prop) → Prop} (hK : ∀ PL WA OA TO BI nm q', rv_Dt (K PL WA OA TO BI nm q')) : rv_Dt (fun P => sp_town T PL WA OA TO BI nm q (fun f a => P (.inl (f, a))) (fun PL WA OA TO BI nm q' => K PL WA OA TO BI nm q' P)) := by
  unfold sp_town
  exact (dt_if (dt_f _ _) (dt_nam (dt_find (fun r => (dt_if (dt_num (dt_num (dt_num (dt_num (hK _ _ _ _ _ _ _))))) (dt_f _ _))))))
theorem dt_water {PL WA OA : Nat → Int} {TO BI : Nat → Nat → Int} {nm : Nat → List Int} {q : Nat} {K : (Nat → Int) → (Nat → Int) → (Nat → Int) → (Nat → Nat → Int) → (Nat → Nat → Int) → (Nat → List Int) → Nat → (rv_Om → Prop) → Prop} (hK : ∀ PL WA OA TO BI nm q', rv_Dt (K PL WA OA TO BI nm q')) : rv_Dt (fun P => sp_water T PL WA OA TO BI nm q (fun f a => P (.inl (f, a))) (fun PL WA OA TO BI nm q' => K PL WA OA TO BI nm q' P)) := by
  unfold sp_water
  exact (dt_num (dt_if (dt_num (hK _ _ _ _ _ _ _)) (dt_f _ _)))
theorem dt_bid {PL WA OA : Nat → Int} {TO BI : Nat → Nat → Int} {nm : Nat → List Int} {q : Nat} {K : (Nat → Int) → (Nat → Int) → (Nat → Int) → (Nat → Nat → Int) → (Nat → Nat → Int) → (Nat → List Int) → Nat → (rv_Om → Prop) → Prop} (hK : ∀ PL WA OA TO BI nm q', rv_Dt (K PL WA OA TO BI nm q')) : rv_Dt (fun P => sp_bid T PL WA OA TO BI nm q (fun f a => P (.inl (f, a))) (fun PL WA OA TO BI nm q' => K PL WA OA TO BI nm q' P)) := by
  unfold sp_bid
  exact (dt_if (dt_f _ _) (dt_nam (dt_find (fun r => (dt_if (dt_f _ _) (dt_num (dt_if (dt_num (hK _ _ _ _ _ _ _)) (dt_f _ _))))))))
theorem dt_need {PL WA OA : Nat → Int} {TO BI : Nat → Nat → Int} {nm : Nat → List Int} {q : Nat} {K : (Nat → Int) → (Nat → Int) → (Nat → Int) → (Nat → Nat → Int) → (Nat → Nat → Int) → (Nat → List Int) → Nat → (rv_Om → Prop) → Prop} (hK : ∀ PL WA OA TO BI nm q', rv_Dt (K PL WA OA TO BI nm q')) : rv_Dt (fun P => sp_need T PL WA OA TO BI nm q (fun f a => P (.inl (f, a))) (fun PL WA OA TO BI nm q' => K PL WA OA TO BI nm q' P)) := by
  unfold sp_need
  exact (dt_nam (dt_find (fun r => (dt_if (dt_f _ _) (dt_if (dt_num (hK _ _ _ _ _ _ _)) (dt_f _ _))))))
theorem dt_mill {PL WA OA : Nat → Int} {TO BI : Nat → Nat → Int} {nm : Nat → List Int} {q : Nat} {K : (Nat → Int) → (Nat → Int) → (Nat → Int) → (Nat → Nat → Int) → (Nat → Nat → Int) → (Nat → List Int) → Nat → (rv_Om → Prop) → Prop} (hK : ∀ PL WA OA TO BI nm q', rv_Dt (K PL WA OA TO BI nm q')) : rv_Dt (fun P => sp_mill T PL WA OA TO BI nm q (fun f a => P (.inl (f, a))) (fun PL WA OA TO BI nm q' => K PL WA OA TO BI nm q' P)) := by
  unfold sp_mill
  exact (dt_nam (dt_find (fun r => (dt_if (dt_f _ _) (dt_if (dt_num (hK _ _ _ _ _ _ _)) (dt_f _ _))))))
theorem dt_bridge {PL WA OA : Nat → Int} {TO BI : Nat → Nat → Int} {nm : Nat → List Int} {q : Nat} {K : (Nat → Int) → (Nat → Int) → (Nat → Int) → (Nat → Nat → Int) → (Nat → Nat → Int) → (Nat → List Int) → Nat → (rv_Om → Prop) → Prop} (hK : ∀ PL WA OA TO BI nm q', rv_Dt (K PL WA OA TO BI nm q')) : rv_Dt (fun P => sp_bridge T PL WA OA TO BI nm q (fun f a => P (.inl (f, a))) (fun PL WA OA TO BI nm q' => K PL WA OA TO BI nm q' P)) := by
  unfold sp_bridge
  exact (dt_nam (dt_find (fun r => (dt_if (dt_f _ _) (dt_if (dt_num (hK _ _ _ _ _ _ _)) (dt_f _ _))))))
theorem dt_field {PL WA OA : Nat → Int} {TO BI : Nat → Nat → Int} {nm : Nat → List Int} {q : Nat} {K : (Nat → Int) → (Nat → Int) → (Nat → Int) → (Nat → Nat → Int) → (Nat → Nat → Int) → (Nat → List Int) → Nat → (rv_Om → Prop) → Prop} (hK : ∀ PL WA OA TO BI nm q', rv_Dt (K PL WA OA TO BI nm q')) : rv_Dt (fun P => sp_field T PL WA OA TO BI nm q (fun f a => P (.inl (f, a))) (fun PL WA OA TO BI nm q' => K PL WA OA TO BI nm q' P)) := by
  unfold sp_field
  exact (dt_nam (dt_find (fun r => (dt_if (dt_f _ _) (dt_if (dt_num (dt_num (hK _ _ _ _ _ _ _))) (dt_f _ _))))))
theorem dt_move {PL WA OA : Nat → Int} {TO BI : Nat → Nat → Int} {nm : Nat → List Int} {q : Nat} {K : (Nat → Int) → (Nat → Int) → (Nat → Int) → (Nat → Nat → Int) → (Nat → Nat → Int) → (Nat → List Int) → Nat → (rv_Om → Prop) → Prop} (hK : ∀ PL WA OA TO BI nm q', rv_Dt (K PL WA OA TO BI nm q')) : rv_Dt (fun P => sp_move T PL WA OA TO BI nm q (fun f a => P (.inl (f, a))) (fun PL WA OA TO BI nm q' => K PL WA OA TO BI nm q' P)) := by
  unfold sp_move
  exact (dt_if (dt_num (hK _ _ _ _ _ _ _)) (dt_f _ _))
theorem dt_fish {PL WA OA : Nat → Int} {TO BI : Nat → Nat → Int} {nm : Nat → List Int} {q : Nat} {K : (Nat → Int) → (Nat → Int) → (Nat → Int) → (Nat → Nat → Int) → (Nat → Nat → Int) → (Nat → List Int) → Nat → (rv_Om → Prop) → Prop} (hK : ∀ PL WA OA TO BI nm q', rv_Dt (K PL WA OA TO BI nm q')) : rv_Dt (fun P => sp_fish T PL WA OA TO BI nm q (fun f a => P (.inl (f, a))) (fun PL WA OA TO BI nm q' => K PL WA OA TO BI nm q' P)) := by
  unfold sp_fish
  exact (dt_if (dt_num (hK _ _ _ _ _ _ _)) (dt_f _ _))
theorem dt_patience {PL WA OA : Nat → Int} {TO BI : Nat → Nat → Int} {nm : Nat → List Int} {q : Nat} {K : (Nat → Int) → (Nat → Int) → (Nat → Int) → (Nat → Nat → Int) → (Nat → Nat → Int) → (Nat → List Int) → Nat → (rv_Om → Prop) → Prop} (hK : ∀ PL WA OA TO BI nm q', rv_Dt (K PL WA OA TO BI nm q')) : rv_Dt (fun P => sp_patience T PL WA OA TO BI nm q (fun f a => P (.inl (f, a))) (fun PL WA OA TO BI nm q' => K PL WA OA TO BI nm q' P)) := by
  unfold sp_patience
  exact (dt_if (dt_num (hK _ _ _ _ _ _ _)) (dt_f _ _))
theorem dt_row {PL WA OA : Nat → Int} {TO BI : Nat → Nat → Int} {nm : Nat → List Int} {q : Nat} {K : (Nat → Int) → (Nat → Int) → (Nat → Int) → (Nat → Nat → Int) → (Nat → Nat → Int) → (Nat → List Int) → Nat → (rv_Om → Prop) → Prop} (hK : ∀ PL WA OA TO BI nm q', rv_Dt (K PL WA OA TO BI nm q')) : rv_Dt (fun P => sp_row T PL WA OA TO BI nm q (fun f a => P (.inl (f, a))) (fun PL WA OA TO BI nm q' => K PL WA OA TO BI nm q' P)) := by
  by_cases c : (T q).1 = 1 ∧ ¬ rv_nam (T q).2.2.2.1
  · have : ∃ j, j < 24 ∧ rv_rs.getD j [] = (T q).2.2.2.1 := Classical.byContradiction (fun g => c.2 (fun j hj e => g ⟨j, hj, e⟩))
    obtain ⟨j, j1, hj⟩ := this
    have key : rv_Dt (fun P => (j = 0 → sp_town T PL WA OA TO BI nm q (fun f a => P (.inl (f, a))) (fun PL WA OA TO BI nm q' => K PL WA OA TO BI nm q' P)) ∧ (j = 1 → sp_water T PL WA OA TO BI nm q (fun f a => P (.inl (f, a))) (fun PL WA OA TO BI nm q' => K PL WA OA TO BI nm q' P)) ∧ (j = 2 → sp_bid T PL WA OA TO BI nm q (fun f a => P (.inl (f, a))) (fun PL WA OA TO BI nm q' => K PL WA OA TO BI nm q' P)) ∧ (j = 3 → sp_need T PL WA OA TO BI nm q (fun f a => P (.inl (f, a))) (fun PL WA OA TO BI nm q' => K PL WA OA TO BI nm q' P)) ∧ (j = 4 → sp_mill T PL WA OA TO BI nm q (fun f a => P (.inl (f, a))) (fun PL WA OA TO BI nm q' => K PL WA OA TO BI nm q' P)) ∧ (j = 5 → sp_bridge T PL WA OA TO BI nm q (fun f a => P (.inl (f, a))) (fun PL WA OA TO BI nm q' => K PL WA OA TO BI nm q' P)) ∧ (j = 6 → sp_field T PL WA OA TO BI nm q (fun f a => P (.inl (f, a))) (fun PL WA OA TO BI nm q' => K PL WA OA TO BI nm q' P)) ∧ (j = 7 → sp_move T PL WA OA TO BI nm q (fun f a => P (.inl (f, a))) (fun PL WA OA TO BI nm q' => K PL WA OA TO BI nm q' P)) ∧ (j = 8 → sp_fish T PL WA OA TO BI nm q (fun f a => P (.inl (f, a))) (fun PL WA OA TO BI nm q' => K PL WA OA TO BI nm q' P)) ∧ (j = 9 → sp_patience T PL WA OA TO BI nm q (fun f a => P (.inl (f, a))) (fun PL WA OA TO BI nm q' => K PL WA OA TO BI nm q' P)) ∧ (10 ≤ j → P (.inl (1, (T q).2.1)))) := by
      rcases Nat.lt_or_ge j 10 with q1 | q1
      · have hjj : j = 0 ∨ j = 1 ∨ j = 2 ∨ j = 3 ∨ j = 4 ∨ j = 5 ∨ j = 6 ∨ j = 7 ∨ j = 8 ∨ j = 9 := by omega
        rcases hjj with rfl | rfl | rfl | rfl | rfl | rfl | rfl | rfl | rfl | rfl
        · obtain ⟨y, hy⟩ := dt_town (T := T) (PL := PL) (WA := WA) (OA := OA) (TO := TO) (BI := BI) (nm := nm) (q := q) hK
          exact ⟨y, fun P p => ⟨fun _ => hy P p, fun e => absurd e (by decide), fun e => absurd e (by decide), fun e => absurd e (by decide), fun e => absurd e (by decide), fun e => absurd e (by decide), fun e => absurd e (by decide), fun e => absurd e (by decide), fun e => absurd e (by decide), fun e => absurd e (by decide), fun e => absurd e (by decide)⟩⟩
        · obtain ⟨y, hy⟩ := dt_water (T := T) (PL := PL) (WA := WA) (OA := OA) (TO := TO) (BI := BI) (nm := nm) (q := q) hK
          exact ⟨y, fun P p => ⟨fun e => absurd e (by decide), fun _ => hy P p, fun e => absurd e (by decide), fun e => absurd e (by decide), fun e => absurd e (by decide), fun e => absurd e (by decide), fun e => absurd e (by decide), fun e => absurd e (by decide), fun e => absurd e (by decide), fun e => absurd e (by decide), fun e => absurd e (by decide)⟩⟩
        · obtain ⟨y, hy⟩ := dt_bid (T := T) (PL := PL) (WA := WA) (OA := OA) (TO := TO) (BI := BI) (nm := nm) (q := q) hK
          exact ⟨y, fun P p => ⟨fun e => absurd e (by decide), fun e => absurd e (by decide), fun _ => hy P p, fun e => absurd e (by decide), fun e => absurd e (by decide), fun e => absurd e (by decide), fun e => absurd e (by decide), fun e => absurd e (by decide), fun e => absurd e (by decide), fun e => absurd e (by decide), fun e => absurd e (by decide)⟩⟩
        · obtain ⟨y, hy⟩ := dt_need (T := T) (PL := PL) (WA := WA) (OA := OA) (TO := TO) (BI := BI) (nm := nm) (q := q) hK
          exact ⟨y, fun P p => ⟨fun e => absurd e (by decide), fun e => absurd e (by decide), fun e => absurd e (by decide), fun _ => hy P p, fun e => absurd e (by decide), fun e => absurd e (by decide), fun e => absurd e (by decide), fun e => absurd e (by decide), fun e => absurd e (by decide), fun e => absurd e (by decide), fun e => absurd e (by decide)⟩⟩
        · obtain ⟨y, hy⟩ := dt_mill (T := T) (PL := PL) (WA := WA) (OA := OA) (TO := TO) (BI := BI) (nm := nm) (q := q) hK
          exact ⟨y, fun P p => ⟨fun e => absurd e (by decide), fun e => absurd e (by decide), fun e => absurd e (by decide), fun e => absurd e (by decide), fun _ => hy P p, fun e => absurd e (by decide), fun e => absurd e (by decide), fun e => absurd e (by decide), fun e => absurd e (by decide), fun e => absurd e (by decide), fun e => absurd e (by decide)⟩⟩
        · obtain ⟨y, hy⟩ := dt_bridge (T := T) (PL := PL) (WA := WA) (OA := OA) (TO := TO) (BI := BI) (nm := nm) (q := q) hK
          exact ⟨y, fun P p => ⟨fun e => absurd e (by decide), fun e => absurd e (by decide), fun e => absurd e (by decide), fun e => absurd e (by decide), fun e => absurd e (by decide), fun _ => hy P p, fun e => absurd e (by decide), fun e => absurd e (by decide), fun e => absurd e (by decide), fun e => absurd e (by decide), fun e => absurd e (by decide)⟩⟩
        · obtain ⟨y, hy⟩ := dt_field (T := T) (PL := PL) (WA := WA) (OA := OA) (TO := TO) (BI := BI) (nm := nm) (q := q) hK
          exact ⟨y, fun P p => ⟨fun e => absurd e (by decide), fun e => absurd e (by decide), fun e => absurd e (by decide), fun e => absurd e (by decide), fun e => absurd e (by decide), fun e => absurd e (by decide), fun _ => hy P p, fun e => absurd e (by decide), fun e => absurd e (by decide), fun e => absurd e (by decide), fun e => absurd e (by decide)⟩⟩
        · obtain ⟨y, hy⟩ := dt_move (T := T) (PL := PL) (WA := WA) (OA := OA) (TO := TO) (BI := BI) (nm := nm) (q := q) hK
          exact ⟨y, fun P p => ⟨fun e => absurd e (by decide), fun e => absurd e (by decide), fun e => absurd e (by decide), fun e => absurd e (by decide), fun e => absurd e (by decide), fun e => absurd e (by decide), fun e => absurd e (by decide), fun _ => hy P p, fun e => absurd e (by decide), fun e => absurd e (by decide), fun e => absurd e (by decide)⟩⟩
        · obtain ⟨y, hy⟩ := dt_fish (T := T) (PL := PL) (WA := WA) (OA := OA) (TO := TO) (BI := BI) (nm := nm) (q := q) hK
          exact ⟨y, fun P p => ⟨fun e => absurd e (by decide), fun e => absurd e (by decide), fun e => absurd e (by decide), fun e => absurd e (by decide), fun e => absurd e (by decide), fun e => absurd e (by decide), fun e => absurd e (by decide), fun e => absurd e (by decide), fun _ => hy P p, fun e => absurd e (by decide), fun e => absurd e (by decide)⟩⟩
        · obtain ⟨y, hy⟩ := dt_patience (T := T) (PL := PL) (WA := WA) (OA := OA) (TO := TO) (BI := BI) (nm := nm) (q := q) hK
          exact ⟨y, fun P p => ⟨fun e => absurd e (by decide), fun e => absurd e (by decide), fun e => absurd e (by decide), fun e => absurd e (by decide), fun e => absurd e (by decide), fun e => absurd e (by decide), fun e => absurd e (by decide), fun e => absurd e (by decide), fun e => absurd e (by decide), fun _ => hy P p, fun e => absurd e (by decide)⟩⟩
      · exact ⟨.inl (1, (T q).2.1), fun P p => ⟨fun e => absurd e (by omega), fun e => absurd e (by omega), fun e => absurd e (by omega), fun e => absurd e (by omega), fun e => absurd e (by omega), fun e => absurd e (by omega), fun e => absurd e (by omega), fun e => absurd e (by omega), fun e => absurd e (by omega), fun e => absurd e (by omega), fun _ => p⟩⟩
    obtain ⟨y, hy⟩ := key
    refine ⟨y, fun P p => ⟨fun i i1 _ hi => ?_, fun n => absurd c n⟩⟩
    have e : i = j := rv_rs_i i i1 j j1 (hi.trans hj.symm)
    rw [e]; exact hy P p
  · exact ⟨.inl (1, (T q).2.1), fun P p => ⟨fun i i1 a b => absurd ⟨a, fun n => n i i1 b⟩ c, fun _ => p⟩⟩
theorem dt_rows : ∀ (f : Nat) (PL WA OA : Nat → Int) (TO BI : Nat → Nat → Int) (nm : Nat → List Int) (r q : Nat), rv_Dt (fun P => sp_rows T (fun f a => P (.inl (f, a))) (fun PL WA OA TO BI nm r => P (.inr (PL, WA, OA, TO, BI, nm, r))) f PL WA OA TO BI nm r q)
  | 0, _, _, _, _, _, _, _, _ => ⟨.inl (0, 0), fun _ _ => trivial⟩
  | f + 1, PL, WA, OA, TO, BI, nm, r, q => by
    by_cases c0 : (T q).1 = 0
    · exact ⟨.inr (PL, WA, OA, TO, BI, nm, r), fun P p => ⟨fun _ => p, fun e => absurd (c0.symm.trans e) (by decide), fun n => absurd c0 n⟩⟩
    · by_cases c5 : (T q).1 = 5
      · exact ⟨.inl (1, (T q).2.1), fun P p => ⟨fun e => absurd e c0, fun _ => p, fun _ n => absurd c5 n⟩⟩
      · obtain ⟨y, hy⟩ := dt_row (T := T) (PL := PL) (WA := WA) (OA := OA) (TO := TO) (BI := BI) (nm := nm) (q := q) (K := fun PL' WA' OA' TO' BI' nm' q' P => sp_sgn T 59 (rv_x T q') (fun f a => P (.inl (f, a))) (sp_rows T (fun f a => P (.inl (f, a))) (fun PL WA OA TO BI nm r => P (.inr (PL, WA, OA, TO, BI, nm, r))) f PL' WA' OA' TO' BI' nm' (r + 1) (rv_x T (rv_x T q')))) (fun PL' WA' OA' TO' BI' nm' q' => dt_sgn (dt_rows f PL' WA' OA' TO' BI' nm' (r + 1) (rv_x T (rv_x T q'))))
        exact ⟨y, fun P p => ⟨fun e => absurd e c0, fun e => absurd e c5, fun _ _ => hy P p⟩⟩
end DT
end
section
/-! ===== the PLAINS at the loop's head ===== -/
/-- the PLAIN of cell P against numbers from o on (towns, move, fish, patience, what is told, WATER; no bids) -/
def rv_G4 (H : Nat → Int) (o : Nat) (w : Nat → Nat) (P : Nat) (M : mj_M) : Prop := H o = M.1 (w P) 4 ∧ H (o + 1) = M.1 (w P) 6 ∧ H (o + 2) = M.1 (w P) 7 ∧ H (o + 3) = M.1 (w P) 8 ∧ (∀ t v, t < 8 → v < 9 → H (o + (4 + 9 * t + v)) = M.1 (w (P + 3 + t)) v) ∧ (∀ v, v < 12 → H (o + (76 + v)) = M.1 (w (P + 20)) v)
theorem sz_ref3 {w : sx_w} {h : sx_H} {G : mj_G} {M : mj_M} {i k j : Nat} (hR : sx_RH w h G M) (hi : i < h.1) (h4 : k < 4096) (e : sx_g (sx_g h.2 i).2.2.2.2 k = some j) : M.2.2 (w.2.2.2 i) k = some (w.2.2.2 j) := by
  have r := ((hR.2.2.1 i hi).2.2 k h4).2.2
  rw [e] at r
  exact r.2
theorem sz_i3_s {w : sx_w} {h : sx_H} {G : mj_G} {M : mj_M} {i k : Nat} (hk : sz_i3 h i k = true) (hR : sx_RH w h G M) (hi : i < h.1) (h4 : k < 4096) (hb : k < sz_bd (G (w.2.2.2 i)).1 (G (w.2.2.2 i)).2) : (sz_M w h G M).1 (w.2.2.2 i) k = 3 := by
  unfold sz_i3 at hk
  rw [sx_cl_eq] at hk
  have c := ((hR.2.2.1 i hi).2.2 k h4).1
  have e : sx_g (sx_g h.2 i).2.2.1 k = .inl 3 := by
    cases e : sx_g (sx_g h.2 i).2.2.1 k with
    | inl z =>
      rw [e] at hk
      have hk : z = 3 := sx_eq_iff.mp hk
      rw [hk]
    | inr z => rw [e] at hk; cases hk
  rw [e] at c
  rw [sz_M_in hi hb]; exact (show (3 : Int) = _ from c).symm
theorem sz_lr_lt : ∀ e ∈ sz_lr, e.1 < 361 ∧ e.2.1 < 4096 := by decide +kernel
theorem sz_lt_lt : ∀ e ∈ sz_lt, e.1 < 361 := by decide +kernel
theorem sz_lz_lt : ∀ e ∈ sz_lz, e.1 < 361 ∧ e.2 < 4096 := by decide +kernel
theorem sz_head3 {w : sx_w} {h : sx_H} {G : mj_G} {M : mj_M} (hR : sx_RH w h G M) (k2 : sz_hk h = true) : lq_A (sz_G w h G) w.2.2.2 ∧ lq_B (sz_M w h G M) w.2.2.2 (w.2.2.2 26) ∧ lq_N (sz_M w h G M) w.2.2.2 30 75 ∧ rv_G4 ((sz_M w h G M).1 (w.2.2.2 338)) 0 w.2.2.2 30 (sz_M w h G M) := by
  have n1 := (sz_hk_s k2).1
  obtain ⟨ya, yb, yc, y3, y4⟩ := sz_hy_s k2
  have d1 := (sz_hx_s k2).1
  have tg : ∀ i t n, (i, t, n) ∈ sz_lt → sz_G w h G (w.2.2.2 i) = (t, n) := fun i t n he => sz_tg_s (yb (i, t, n) he) hR (by have := sz_lt_lt _ he; omega)
  have rq : ∀ i k j, (i, k, j) ∈ sz_lr → (sz_M w h G M).2.2 (w.2.2.2 i) k = some (w.2.2.2 j) := fun i k j he => sz_rq_s (ya (i, k, j) he) hR (by have := (sz_lr_lt _ he).1; omega) (sz_lr_lt _ he).2
  have zr : ∀ i k, (i, k) ∈ sz_lz → (sz_M w h G M).1 (w.2.2.2 i) k = 0 := fun i k he => sz_ik_s (yc (i, k) he) hR (by have := (sz_lz_lt _ he).1; omega) (sz_lz_lt _ he).2
  have rows : ∀ i, i < 361 → sz_G w h G (w.2.2.2 i) = (25104, 8) ∨ sz_G w h G (w.2.2.2 i) = (27104, 8) → ∀ t, t < 8 → (sz_M w h G M).2.2 (w.2.2.2 i) t = some (w.2.2.2 (i + 1 + t)) := by
    intro i hi hg t ht
    have hi2 : i < h.1 := by omega
    have e : (sx_g h.2 i).1 = 25104 ∨ (sx_g h.2 i).1 = 27104 := by
      rw [sz_G_in hi2, (hR.2.2.1 i hi2).1] at hg
      exact hg.imp (congrArg Prod.fst) (congrArg Prod.fst)
    show M.2.2 (w.2.2.2 i) t = some (w.2.2.2 (i + 1 + t))
    exact sz_ref3 hR hi2 (by omega) ((sz_d1_s (d1 i hi)).2.1 e t ht)
  have f8 : ∀ (P : Nat → Prop), (∀ t : Fin 8, P t.val) → ∀ t, t < 8 → P t := fun P hP t ht => hP ⟨t, ht⟩
  have hA : lq_A (sz_G w h G) w.2.2.2 := by
    refine ⟨fun i j hi hj e => hR.2.2.2 i j (by omega) (by omega) e, fun P hP => ?_, tg _ _ _ (by decide +kernel), tg _ _ _ (by decide +kernel), tg _ _ _ (by decide +kernel), tg _ _ _ (by decide +kernel), tg _ _ _ (by decide +kernel)⟩
    rcases lq_P4 hP with rfl | rfl | rfl | rfl
    all_goals
      refine ⟨tg _ _ _ (by decide +kernel), tg _ _ _ (by decide +kernel), tg _ _ _ (by decide +kernel), tg _ _ _ (by decide +kernel), tg _ _ _ (by decide +kernel), fun t ht => ?_, fun t ht => ?_⟩
      · exact tg _ _ _ (f8 (fun t => (_ + 3 + t, 26100, 9) ∈ sz_lt) (by decide +kernel) t ht)
      · exact tg _ _ _ (f8 (fun t => (_ + 12 + t, 28100, 12) ∈ sz_lt) (by decide +kernel) t ht)
  refine ⟨hA, ⟨fun P hP => ?_, rq _ _ _ (by decide +kernel), rq _ _ _ (by decide +kernel), rq _ _ _ (by decide +kernel), rq _ _ _ (by decide +kernel), rq _ _ _ (by decide +kernel), rq _ _ _ (by decide +kernel), rq _ _ _ (by decide +kernel)⟩, ⟨rq _ _ _ (by decide +kernel), rq _ _ _ (by decide +kernel), Or.inl ⟨rfl, rfl⟩⟩, ?_⟩
  · have h4 := lq_P4 hP
    obtain ⟨-, -, g3, g4, -⟩ := hA.2.1 P hP
    refine ⟨?_, ?_, ?_, ?_, fun t ht => rows _ (by omega) (Or.inl g3) t ht, fun t ht => rows _ (by omega) (Or.inr g4) t ht⟩
    all_goals
      rcases h4 with rfl | rfl | rfl | rfl <;> exact rq _ _ _ (by decide +kernel)
  · have b3 : (sz_M w h G M).1 (w.2.2.2 30) 8 = 3 := sz_i3_s y3 hR (by omega) (by decide) (by
      have g := tg 30 1004 0 (by decide +kernel)
      rw [sz_G_in (by omega)] at g
      rw [g]; decide)
    have s3 : (sz_M w h G M).1 (w.2.2.2 338) 3 = 3 := sz_i3_s y4 hR (by omega) (by decide) (by
      have g := sz_tg_s (sz_hk_s k2).2.2.1.2.2.2.1 hR (by omega)
      rw [sz_G_in (by omega)] at g
      rw [g]; decide)
    have zs : ∀ k, k < 88 → k ≠ 3 → (sz_M w h G M).1 (w.2.2.2 338) k = 0 := by
      intro k hk h3
      have key : ∀ k : Fin 88, k.val ≠ 3 → (338, k.val) ∈ sz_lz := by decide +kernel
      exact zr 338 k (key ⟨k, hk⟩ h3)
    have zt : ∀ t v, t < 8 → v < 9 → (sz_M w h G M).1 (w.2.2.2 (30 + 3 + t)) v = 0 := by
      intro t v ht hv
      have key : ∀ (t : Fin 8) (v : Fin 9), (30 + 3 + t.val, v.val) ∈ sz_lz := by decide +kernel
      exact zr _ _ (key ⟨t, ht⟩ ⟨v, hv⟩)
    have zw : ∀ v, v < 12 → (sz_M w h G M).1 (w.2.2.2 (30 + 20)) v = 0 := by
      intro v hv
      have key : ∀ v : Fin 12, (30 + 20, v.val) ∈ sz_lz := by decide +kernel
      exact zr _ _ (key ⟨v, hv⟩)
    refine ⟨?_, ?_, ?_, ?_, fun t v ht hv => ?_, fun v hv => ?_⟩
    · rw [zs 0 (by decide) (by decide), zr 30 4 (by decide +kernel)]
    · rw [zs 1 (by decide) (by decide), zr 30 6 (by decide +kernel)]
    · rw [zs 2 (by decide) (by decide), zr 30 7 (by decide +kernel)]
    · rw [s3, b3]
    · rw [zs _ (by omega) (by omega), zt t v ht hv]
    · rw [zs _ (by omega) (by omega), zw v hv]
end
section
/-! ===== the reference's image and restore with contents; begin and water of both sides ===== -/
theorem lc_X12_image5 {d x m tp s kp ik : Nat} {z1 : Int} {G : mj_G} {M : mj_M} {Q : mj_P} (hV : lw_V G M x m tp s kp) (hik : G ik = (72102, 2)) (h61 : M.2.2 m 61 = some ik) (hQ : ∀ z M', lw_V G M' x m tp s kp → (M'.1 tp 1 = M.1 tp 1 ∧ M'.1 m 2 = M.1 m 2) → ab_frm hn_WI G M M' → ((¬ (0 ≤ z1 ∧ z1 ≤ 1) ∧ z = 0 ∧ (∀ q, M'.1 ik q = M.1 ik q) ∧ M'.1 kp = M.1 kp) ∨ (∃ k : Nat, k ≤ 1 ∧ z1 = (k : Int) ∧ z = 1 ∧ M'.1 ik k = 1 ∧ (∀ q, q ≠ k → M'.1 ik q = M.1 ik q) ∧ (∀ p, p < 537 → M'.1 kp (538 * k + p) = M.1 s p) ∧ (∀ q, q < 538 * k ∨ 538 * k + 538 ≤ q → M'.1 kp q = M.1 kp q))) → Q (some (.inl z)) G M') : mj_R mj_tab (d + 31) 195 [.inr (.inr (some m)), .inl z1] G M Q := by
  obtain ⟨hI, ⟨g1, g2, g3, g4, g5⟩, ⟨r1, r2, r3⟩, f1, f2, f3⟩ := id hV
  refine r_image (d := d + 29) g2 g4 g5 hik r2 r3 h61 hI (fun c0 => ?_) (fun k M' ek hk i e22 f h1 h2 k1 k2 => ?_)
  · have f0 : ab_frm [(1012, 0, 0)] G M (mj_p0 M m 0 0) := hn_f0 ab_frm.rf ⟨(1012, 0, 0), by decide, by rw [g2], by decide, by decide⟩
    exact hQ 0 _ (hV.fr (hI.p0 (by rw [g2]; exact ⟨by decide, by decide⟩)) f0 (by decide)) (hV.sz f0 (by decide)) (hn_up f0 (by decide)) (Or.inl ⟨c0, rfl, fun q => hn_n (Or.inl (hn_ne hik g2 (by decide))), wz_c (hn_ne g5 g2 (by decide))⟩)
  · refine hQ 1 M' ⟨i, ⟨g1, g2, g3, g4, g5⟩, ⟨by rw [e22]; exact r1, by rw [e22]; exact r2, by rw [e22]; exact r3⟩, f1.cg (fun q _ => (f s q (by rw [g4]; exact hn_nt (by decide))).1), ?_, ?_⟩ (hV.sz f (by decide)) f (Or.inr ⟨k, hk, ek, rfl, k1, k2, h1, h2⟩)
    · by_cases e : k = 0
      · subst e
        exact f1.mv (lw_45 hI g4) (fun j hj => by have := h1 (356 + j) (by omega); rw [Nat.mul_zero, Nat.zero_add] at this; exact this)
      · exact f2.mv (lw_45k (k := 0) hI g5 (by decide)) (fun j hj => h2 (356 + j) (by omega))
    · by_cases e : k = 0
      · subst e
        exact f3.mv (lw_45k (k := 1) hI g5 (by decide)) (fun j hj => h2 (894 + j) (by omega))
      · have e1 : k = 1 := by omega
        subst e1
        exact f1.mv (lw_45 hI g4) (fun j hj => by have := h1 (356 + j) (by omega); rw [show 538 * 1 + (356 + j) = 894 + j by omega] at this; exact this)
theorem lc_X12_restore5 {d x m tp s kp ik : Nat} {z1 : Int} {G : mj_G} {M : mj_M} {Q : mj_P} (hV : lw_V G M x m tp s kp) (hik : G ik = (72102, 2)) (h61 : M.2.2 m 61 = some ik) (hQ : ∀ z M', lw_V G M' x m tp s kp → (M'.1 tp 1 = M.1 tp 1 ∧ M'.1 m 2 = M.1 m 2) → ab_frm hn_WR G M M' → (((¬ (0 ≤ z1 ∧ z1 ≤ 1) ∨ M.1 ik z1.toNat = 0) ∧ z = 0 ∧ M'.1 s = M.1 s) ∨ (∃ k : Nat, k ≤ 1 ∧ z1 = (k : Int) ∧ M.1 ik k ≠ 0 ∧ z = 1 ∧ (∀ p, p < 537 → M'.1 s p = M.1 kp (538 * k + p)))) → Q (some (.inl z)) G M') : mj_R mj_tab (d + 31) 235 [.inr (.inr (some m)), .inl z1] G M Q := by
  obtain ⟨hI, ⟨g1, g2, g3, g4, g5⟩, ⟨r1, r2, r3⟩, f1, f2, f3⟩ := id hV
  refine r_restore (d := d + 29) g2 g4 g5 hik r2 r3 h61 hI (fun c0 => ?_) (fun k M' ek hk k0 i e22 f h1 => ?_)
  · have f0 : ab_frm [(1012, 0, 0)] G M (mj_p0 M m 0 0) := hn_f0 ab_frm.rf ⟨(1012, 0, 0), by decide, by rw [g2], by decide, by decide⟩
    exact hQ 0 _ (hV.fr (hI.p0 (by rw [g2]; exact ⟨by decide, by decide⟩)) f0 (by decide)) (hV.sz f0 (by decide)) (hn_up f0 (by decide)) (Or.inl ⟨c0.imp id (fun ⟨k, e1, e2, e3⟩ => by rw [e1]; exact e3), rfl, wz_c (hn_ne g4 g2 (by decide))⟩)
  · have hF : hn_F M' s 356 := by
      by_cases e : k = 0
      · subst e
        exact f2.mv (lw_45k (k := 0) hI g5 (by decide)) (fun j hj => by have := h1 (356 + j) (by omega); rw [Nat.mul_zero, Nat.zero_add] at this; exact this)
      · have e1 : k = 1 := by omega
        subst e1
        exact f3.mv (lw_45k (k := 1) hI g5 (by decide)) (fun j hj => by have := h1 (356 + j) (by omega); rw [show 538 * 1 + (356 + j) = 894 + j by omega] at this; exact this)
    exact hQ 1 M' (hV.fs i f (by decide) hF).1 (hV.sz f (by decide)) f (Or.inr ⟨k, hk, ek, k0, rfl, h1⟩)
section BE
variable {G : mj_G} {M : mj_M} {w : Nat → Nat} {x m p q tp s kp : Nat} {z1 : Int} {Q : mj_P}
theorem r_X11_begin4 (hI : ab_Inv G M) (gx : G x = (1011, 0)) (hA : lq_A G w) (hB : lq_B M w x) (hN : lq_N M w p q) (h0 : M.1 (w p) 4 = 0 → ∀ M', Q (some (.inl 0)) G M') (h1 : M.1 (w p) 4 ≠ 0 → ∀ M', Q (some (.inl 1)) G M') : mj_R mj_tab 40 110 [.inr (.inr (some x))] G M Q := by
  obtain ⟨gp, -⟩ := hA.2.1 p hN.pin.1
  obtain ⟨ye, w3, gye⟩ := hn_rf (k := 3) (q := (1010, 0)) hI hA.2.2.1 rfl (by decide) (by decide) (by decide) (fun e => absurd e (by decide))
  refine ⟨Nat.le_of_ble_eq_true rfl, ?_⟩
  show wz 39 mt_X11_begin.2.2.2.2.1 Q mt_X11_begin.2.2.2.2.1 [some (.inr (.inr (some x)))] [] G M _ _
  refine w_aln rfl ?_
  refine w_gr gx rfl (by decide) rfl hB.2.1 ?_
  refine w_gr hA.2.2.1 rfl (by decide) rfl hN.1 ?_
  refine w_gi gp rfl (by decide) rfl rfl ?_
  refine w_ifne (fun c => ?_) (fun c => ?_)
  · refine w_aln rfl ?_
    refine w_gr gx rfl (by decide) rfl hB.2.1 ?_
    refine w_gr hA.2.2.1 rfl (by decide) rfl w3 ?_
    refine w_aln rfl ?_
    refine w_gr gx rfl (by decide) rfl hB.2.1 ?_
    refine w_gr hA.2.2.1 rfl (by decide) rfl hN.1 ?_
    refine w_cv (st := []) rfl gye rfl (Nat.le_of_ble_eq_true rfl) (fun kk h => h) (lw_cc (c := cd_9) (dd := 38) (ab_all_ok 214 (Nat.le_refl _) 9 (by decide)) rfl (by decide +kernel) gye gp (by decide) (by decide) (by decide) (by decide) (by decide) (by decide) (by decide +kernel) hI (fun M1 I1 f1 => ?_))
    refine w_ic ?_
    exact w_iret (fun _ => Or.inr rfl) (h1 c _)
  · refine w_ic ?_
    exact w_iret (fun _ => Or.inl rfl) (h0 c _)
theorem r_begins {dd : Nat} (hd : ab_h cd_61 ≤ dd) (hI : ab_Inv G M) (gm : G m = (1012, 0)) (gs : G s = (51100, 537)) (m6 : M.2.2 m 6 = some s) (hQ : ∀ M', ab_Inv G M' → ab_frm (ab_w cd_61) G M M' → Q none G M') : mj_R mj_tab (dd + 1) 163 [.inr (.inr (some m))] G M Q := by
  have b : 0 ≤ M.1 s 222 ∧ M.1 s 222 ≤ 12 := by
    have h := hI.1 s 222
    rw [gs] at h
    exact h
  refine ab_all_ok 214 (Nat.le_refl _) 61 (by decide) dd hd G M (1, hn_g [M.1 s 222], 2, lw_w2 m s) _ Q (hn_Y1 b) ⟨rfl, fun i q e => by
    cases i with
    | zero => cases e; exact Or.inr (Or.inr (Or.inr ⟨by decide, by decide, by decide, m, rfl, gm⟩))
    | succ i => cases i with
      | zero => cases e; exact Or.inr (Or.inr (Or.inr ⟨by decide, by decide, by decide, s, rfl, gs⟩))
      | succ i => cases e⟩ (fun e he => by
    cases he with
    | head => exact ⟨Nat.le_of_ble_eq_true rfl, m, 6, rfl, rfl, by decide, Nat.le_of_ble_eq_true rfl, m6⟩
    | tail _ he => cases he with
      | head => exact ⟨Nat.le_of_ble_eq_true rfl, s, 222, rfl, rfl, by decide, hn_I (Nat.le_of_ble_eq_true rfl) rfl⟩
      | tail _ he => cases he) ⟨_, _, rfl, ⟨Nat.le_of_ble_eq_true rfl, rfl⟩, rfl⟩ hI (fun r M' i f ⟨po, hpo, h⟩ => ?_)
  cases hpo with
  | head =>
    have hr : r = none := h.1
    rw [hr]; exact hQ M' i f
  | tail _ hpo => cases hpo
theorem r_X12_begin4 (hI : ab_Inv G M) (gm : G m = (1012, 0)) (gs : G s = (51100, 537)) (m6 : M.2.2 m 6 = some s) (h0 : M.1 s 0 = 0 → ∀ M', Q (some (.inl 0)) G M') (h1 : M.1 s 0 ≠ 0 → ∀ M', Q (some (.inl 1)) G M') : mj_R mj_tab 40 162 [.inr (.inr (some m))] G M Q := by
  refine ⟨Nat.le_of_ble_eq_true rfl, ?_⟩
  show wz 39 mt_X12_begin.2.2.2.2.1 Q mt_X12_begin.2.2.2.2.1 [some (.inr (.inr (some m)))] [] G M _ _
  refine w_aln rfl ?_
  refine w_ic ?_
  refine w_pi gm rfl (by decide) rfl (fun q => by cases q) ?_
  refine w_aln rfl ?_
  refine w_gr gm rfl (by decide) rfl m6 ?_
  refine w_ic ?_
  refine w_iald (v := M.1 s 0) gs rfl (by decide) (by decide) (hn_n (Or.inl (hn_ne gs gm (by decide)))) ?_
  refine w_ifne (fun c => ?_) (fun c => ?_)
  · refine w_aln rfl ?_
    refine w_cv (st := []) rfl gm rfl (Nat.le_of_ble_eq_true rfl) (fun kk h => h) (r_begins (dd := 38) (by decide +kernel) (hI.p0 (by rw [gm]; exact ⟨by decide, by decide⟩)) gm gs m6 (fun M1 I1 f1 => ?_))
    refine w_ic ?_
    exact w_iret (fun _ => Or.inr rfl) (h1 c _)
  · refine w_ic ?_
    exact w_iret (fun _ => Or.inl rfl) (h0 c _)
end BE
end
section
/-! ===== what a PLAIN that is read well keeps: ranges, the count of bids ===== -/
def lq_ct (f : Nat → Int) : Nat → Int
  | 0 => 0
  | n + 1 => lq_ct f n + (if 0 < f n then 1 else 0)
theorem lq_ct_cg {f g : Nat → Int} : ∀ n, (∀ i, i < n → f i = g i) → lq_ct f n = lq_ct g n
  | 0, _ => rfl
  | n + 1, h => by
    show lq_ct f n + (if 0 < f n then 1 else 0) = lq_ct g n + (if 0 < g n then 1 else 0)
    rw [lq_ct_cg n (fun i hi => h i (by omega)), h n (by omega)]
theorem lq_ct_up {f g : Nat → Int} {j : Nat} (h : ∀ i, i ≠ j → g i = f i) : ∀ n, j < n → lq_ct g n = lq_ct f n - (if 0 < f j then 1 else 0) + (if 0 < g j then 1 else 0)
  | 0, hj => absurd hj (Nat.not_lt_zero _)
  | n + 1, hj => by
    show lq_ct g n + (if 0 < g n then 1 else 0) = lq_ct f n + (if 0 < f n then 1 else 0) - (if 0 < f j then 1 else 0) + (if 0 < g j then 1 else 0)
    by_cases e : j = n
    · subst e
      rw [lq_ct_cg (f := g) (g := f) j (fun i hi => h i (by omega))]
      omega
    · rw [lq_ct_up h n (by omega), h n (fun q => e q.symm)]
      omega
theorem lq_ct_b (f : Nat → Int) : ∀ n, 0 ≤ lq_ct f n ∧ lq_ct f n ≤ (n : Int)
  | 0 => ⟨Int.le_refl 0, Int.le_refl 0⟩
  | n + 1 => by
    have h := lq_ct_b f n
    show 0 ≤ lq_ct f n + (if 0 < f n then 1 else 0) ∧ lq_ct f n + (if 0 < f n then 1 else 0) ≤ ((n + 1 : Nat) : Int)
    split <;> omega
def rv_ct (BI : Nat → Nat → Int) : Int := lq_ct (fun i => BI (i / 12) (i % 12)) 96
theorem rv_up2_x {f : Nat → Nat → Int} {t j a k : Nat} {v : Int} (h : ¬ (a = t ∧ k = j)) : rv_up2 f t j v a k = f a k := by
  by_cases e : a = t
  · subst e; exact rv_up2_n (fun q => h ⟨rfl, q⟩)
  · unfold rv_up2; rw [if_neg e]
theorem rv_ct_up {BI : Nat → Nat → Int} {r m : Nat} {v : Int} (hr : r < 8) (hm : m < 12) (h0 : BI r m = 0) (hv : 0 < v) : rv_ct (rv_up2 BI r m v) = rv_ct BI + 1 := by
  unfold rv_ct
  have e1 : (12 * r + m) / 12 = r := by omega
  have e2 : (12 * r + m) % 12 = m := by omega
  have k := lq_ct_up (f := fun i => BI (i / 12) (i % 12)) (g := fun i => rv_up2 BI r m v (i / 12) (i % 12)) (j := 12 * r + m) (fun i hi => by
    show rv_up2 BI r m v (i / 12) (i % 12) = BI (i / 12) (i % 12)
    exact rv_up2_x (by omega)) 96 (by omega)
  rw [k, e1, e2, h0]
  have : rv_up2 BI r m v r m = v := rv_up2_s
  rw [this, if_pos hv]
  simp
/-- what every PLAIN keeps -/
def rv_ps (PL WA : Nat → Int) (TO BI : Nat → Nat → Int) : Prop := (0 ≤ PL 4 ∧ PL 4 ≤ 8) ∧ (0 ≤ PL 5 ∧ PL 5 ≤ 40) ∧ (0 ≤ PL 6 ∧ PL 6 ≤ 99) ∧ (0 ≤ PL 7 ∧ PL 7 ≤ 999) ∧ (1 ≤ PL 8 ∧ PL 8 ≤ 12) ∧ (∀ t v, t < 8 → v < 9 → 0 ≤ TO t v ∧ TO t v ≤ 999 ∧ ((t : Int) < PL 4 ∨ TO t v = 0)) ∧ (∀ v, v < 12 → 0 ≤ WA v ∧ WA v ≤ 999) ∧ (∀ t v, t < 8 → v < 12 → 0 ≤ BI t v ∧ BI t v ≤ 999 ∧ ((t : Int) < PL 4 ∨ BI t v = 0)) ∧ PL 5 = rv_ct BI
def rv_rg (y : rv_Om) : Prop := ∀ PL WA OA TO BI nm r, y = .inr (PL, WA, OA, TO, BI, nm, r) → rv_ps PL WA TO BI
def rv_Dr (S : (rv_Om → Prop) → Prop) : Prop := ∃ y, rv_rg y ∧ ∀ P : rv_Om → Prop, P y → S P
theorem dr_l (e : Int × Nat) : rv_rg (.inl e) := fun _ _ _ _ _ _ _ q => by cases q
theorem dr_f (f : Int) (a : Nat) : rv_Dr (fun P => P (.inl (f, a))) := ⟨_, dr_l _, fun _ h => h⟩
theorem dr_if {c : Prop} {A B : (rv_Om → Prop) → Prop} (hA : c → rv_Dr A) (hB : ¬ c → rv_Dr B) : rv_Dr (fun P => (c → A P) ∧ (¬ c → B P)) := by
  by_cases h : c
  · obtain ⟨y, hr, hy⟩ := hA h
    exact ⟨y, hr, fun P p => ⟨fun _ => hy P p, fun n => absurd h n⟩⟩
  · obtain ⟨y, hr, hy⟩ := hB h
    exact ⟨y, hr, fun P p => ⟨fun n => absurd n h, fun _ => hy P p⟩⟩
section DR
variable {T : Nat → Nat × Nat × Int × List Int × Nat} {p : Nat} {A : (rv_Om → Prop) → Prop}
theorem dr_num {lo hi : Int} (hA : lo ≤ (T p).2.2.1 → (T p).2.2.1 ≤ hi → rv_Dr A) : rv_Dr (fun P => sp_num T lo hi p (fun f a => P (.inl (f, a))) (A P)) := by
  by_cases c1 : (T p).1 = 2
  · by_cases c2 : lo ≤ (T p).2.2.1
    · by_cases c3 : (T p).2.2.1 ≤ hi
      · obtain ⟨y, hr, hy⟩ := hA c2 c3
        exact ⟨y, hr, fun P k => ⟨fun _ => ⟨fun _ => ⟨fun _ => hy P k, fun n => absurd c3 n⟩, fun n => absurd c2 n⟩, fun n => absurd c1 n⟩⟩
      · exact ⟨.inl (2, (T p).2.1), dr_l _, fun P k => ⟨fun _ => ⟨fun _ => ⟨fun n => absurd n c3, fun _ => k⟩, fun n => absurd c2 n⟩, fun n => absurd c1 n⟩⟩
    · exact ⟨.inl (2, (T p).2.1), dr_l _, fun P k => ⟨fun _ => ⟨fun n => absurd n c2, fun _ => k⟩, fun n => absurd c1 n⟩⟩
  · exact ⟨.inl (1, (T p).2.1), dr_l _, fun P k => ⟨fun n => absurd n c1, fun _ => k⟩⟩
theorem dr_sgn {c : Int} (hA : rv_Dr A) : rv_Dr (fun P => sp_sgn T c p (fun f a => P (.inl (f, a))) (A P)) := by
  obtain ⟨y, hr, hy⟩ := hA
  by_cases c1 : (T p).1 = 3
  · by_cases c2 : (T p).2.2.1 = c
    · exact ⟨y, hr, fun P k => ⟨fun _ => ⟨fun _ => hy P k, fun n => absurd c2 n⟩, fun n => absurd c1 n⟩⟩
    · exact ⟨.inl (1, (T p).2.1), dr_l _, fun P k => ⟨fun _ => ⟨fun n => absurd n c2, fun _ => k⟩, fun n => absurd c1 n⟩⟩
  · exact ⟨.inl (1, (T p).2.1), dr_l _, fun P k => ⟨fun n => absurd n c1, fun _ => k⟩⟩
theorem dr_nam (hA : rv_Dr A) : rv_Dr (fun P => sp_nam T p (fun f a => P (.inl (f, a))) (A P)) := by
  obtain ⟨y, hr, hy⟩ := hA
  by_cases c1 : (T p).1 = 1
  · by_cases c2 : rv_nam (T p).2.2.2.1
    · exact ⟨y, hr, fun P k => ⟨fun _ => ⟨fun _ => hy P k, fun n => absurd c2 n⟩, fun n => absurd c1 n⟩⟩
    · exact ⟨.inl (1, (T p).2.1), dr_l _, fun P k => ⟨fun _ => ⟨fun n => absurd n c2, fun _ => k⟩, fun n => absurd c1 n⟩⟩
  · exact ⟨.inl (1, (T p).2.1), dr_l _, fun P k => ⟨fun n => absurd n c1, fun _ => k⟩⟩
theorem dr_find {nm : Nat → List Int} {k : Int} {w : List Int} {K : Int → (rv_Om → Prop) → Prop} (hK : ∀ r : Int, (r = -1 ∨ (0 ≤ r ∧ r < k)) → rv_Dr (K r)) : rv_Dr (fun P => sp_find nm k w (fun r => K r P)) := by
  by_cases h : ∃ r : Nat, (r : Int) < k ∧ nm r = w ∧ ∀ j, j < r → nm j ≠ w
  · obtain ⟨r, h1, h2, h3⟩ := h
    obtain ⟨y, hr, hy⟩ := hK (r : Int) (Or.inr ⟨by omega, h1⟩)
    refine ⟨y, hr, fun P p => ⟨fun r' g1 g2 g3 => ?_, fun g => absurd h2 (g r h1)⟩⟩
    have e : r' = r := by
      rcases Nat.lt_trichotomy r' r with q | q | q
      · exact absurd g2 (h3 r' q)
      · exact q
      · exact absurd h2 (g3 r q)
    rw [e]; exact hy P p
  · obtain ⟨y, hr, hy⟩ := hK (-1) (Or.inl rfl)
    exact ⟨y, hr, fun P p => ⟨fun r' g1 g2 g3 => absurd ⟨r', g1, g2, g3⟩ h, fun _ => hy P p⟩⟩
end DR
/-! what rows do to it -/
section PS
variable {PL WA : Nat → Int} {TO BI : Nat → Nat → Int} {v v1 v2 v3 v4 : Int} {r j : Nat}
theorem rv_ps.pl (h : rv_ps PL WA TO BI) {PL' : Nat → Int} (e4 : PL' 4 = PL 4) (e5 : PL' 5 = PL 5) (e6 : 0 ≤ PL' 6 ∧ PL' 6 ≤ 99) (e7 : 0 ≤ PL' 7 ∧ PL' 7 ≤ 999) (e8 : 1 ≤ PL' 8 ∧ PL' 8 ≤ 12) : rv_ps PL' WA TO BI := by
  obtain ⟨a1, a2, a3, a4, a5, a6, a7, a8, a9⟩ := h
  refine ⟨by rw [e4]; exact a1, by rw [e5]; exact a2, e6, e7, e8, ?_, a7, ?_, e5.trans a9⟩
  · rw [e4]; exact a6
  · rw [e4]; exact a8
theorem rv_ps.wa (h : rv_ps PL WA TO BI) (hv : 0 ≤ v ∧ v ≤ 999) : rv_ps PL (rv_up WA j v) TO BI := by
  obtain ⟨a1, a2, a3, a4, a5, a6, a7, a8, a9⟩ := h
  refine ⟨a1, a2, a3, a4, a5, a6, fun k hk => ?_, a8, a9⟩
  by_cases e : k = j
  · subst e; rw [rv_up_s]; exact hv
  · rw [rv_up_n e]; exact a7 k hk
theorem rv_ps.to (h : rv_ps PL WA TO BI) (hr : (r : Int) < PL 4) (hv : 0 ≤ v ∧ v ≤ 999) : rv_ps PL WA (rv_up2 TO r j v) BI := by
  obtain ⟨a1, a2, a3, a4, a5, a6, a7, a8, a9⟩ := h
  refine ⟨a1, a2, a3, a4, a5, fun t k ht hk => ?_, a7, a8, a9⟩
  by_cases e : t = r ∧ k = j
  · obtain ⟨rfl, rfl⟩ := e; rw [rv_up2_s]; exact ⟨hv.1, hv.2, Or.inl hr⟩
  · rw [rv_up2_x e]; exact a6 t k ht hk
theorem rv_ps.bi (h : rv_ps PL WA TO BI) (hr : (r : Int) < PL 4) (hj : j < 12) (h0 : BI r j = 0) (h40 : ¬ 40 ≤ PL 5) (hv : 1 ≤ v ∧ v ≤ 999) : rv_ps (rv_up PL 5 (PL 5 + 1)) WA TO (rv_up2 BI r j v) := by
  obtain ⟨a1, a2, a3, a4, a5, a6, a7, a8, a9⟩ := h
  have n4 : rv_up PL 5 (PL 5 + 1) 4 = PL 4 := rv_up_n (by decide)
  refine ⟨by rw [n4]; exact a1, by rw [rv_up_s]; omega, by rw [rv_up_n (by decide)]; exact a3, by rw [rv_up_n (by decide)]; exact a4, by rw [rv_up_n (by decide)]; exact a5, by rw [n4]; exact a6, a7, fun t k ht hk => ?_, ?_⟩
  · rw [n4]
    by_cases e : t = r ∧ k = j
    · obtain ⟨rfl, rfl⟩ := e; rw [rv_up2_s]; exact ⟨by omega, hv.2, Or.inl hr⟩
    · rw [rv_up2_x e]; exact a8 t k ht hk
  · rw [rv_up_s, rv_ct_up (by omega) hj h0 (by omega), a9]
theorem rv_ps.town (h : rv_ps PL WA TO BI) (h8 : ¬ 8 ≤ PL 4) (b1 : 0 ≤ v1 ∧ v1 ≤ 99) (b2 : 0 ≤ v2 ∧ v2 ≤ 999) (b3 : 0 ≤ v3 ∧ v3 ≤ 99) (b4 : 0 ≤ v4 ∧ v4 ≤ 999) : rv_ps (rv_up PL 4 (PL 4 + 1)) WA (rv_up2 (rv_up2 (rv_up2 (rv_up2 TO (PL 4).toNat 0 v1) (PL 4).toNat 1 v2) (PL 4).toNat 2 v3) (PL 4).toNat 3 v4) BI := by
  obtain ⟨a1, a2, a3, a4, a5, a6, a7, a8, a9⟩ := h
  have h0 : rv_ps (rv_up PL 4 (PL 4 + 1)) WA TO BI := by
    refine ⟨by rw [rv_up_s]; omega, by rw [rv_up_n (by decide)]; exact a2, by rw [rv_up_n (by decide)]; exact a3, by rw [rv_up_n (by decide)]; exact a4, by rw [rv_up_n (by decide)]; exact a5, fun t k ht hk => ?_, a7, fun t k ht hk => ?_, by rw [rv_up_n (by decide)]; exact a9⟩
    · have := a6 t k ht hk; rw [rv_up_s]; exact ⟨this.1, this.2.1, this.2.2.imp (fun h => by omega) id⟩
    · have := a8 t k ht hk; rw [rv_up_s]; exact ⟨this.1, this.2.1, this.2.2.imp (fun h => by omega) id⟩
  have hr : (((PL 4).toNat : Nat) : Int) < rv_up PL 4 (PL 4 + 1) 4 := by rw [rv_up_s]; omega
  exact (((h0.to hr (v := v1) (j := 0) (by omega)).to hr (v := v2) (j := 1) (by omega)).to hr (v := v3) (j := 2) (by omega)).to hr (v := v4) (j := 3) (by omega)
end PS
section DS
variable {T : Nat → Nat × Nat × Int × List Int × Nat}
variable {PL WA OA : Nat → Int} {TO BI : Nat → Nat → Int} {nm : Nat → List Int} {q : Nat} {K : (Nat → Int) → (Nat → Int) → (Nat → Int) → (Nat → Nat → Int) → (Nat → Nat → Int) → (Nat → List Int) → Nat → (rv_Om → Prop) → Prop}
theorem dr_town (h : rv_ps PL WA TO BI) (hK : ∀ PL WA OA TO BI nm q', rv_ps PL WA TO BI → rv_Dr (K PL WA OA TO BI nm q')) : rv_Dr (fun P => sp_town T PL WA OA TO BI nm q (fun f a => P (.inl (f, a))) (fun PL WA OA TO BI nm q' => K PL WA OA TO BI nm q' P)) := by
  unfold sp_town
  exact dr_if (fun _ => dr_f _ _) (fun c => dr_nam (dr_find (fun r _ => dr_if (fun _ => dr_num (fun a1 b1 => dr_num (fun a2 b2 => dr_num (fun a3 b3 => dr_num (fun a4 b4 => hK _ _ _ _ _ _ _ (h.town c ⟨a1, b1⟩ ⟨a2, b2⟩ ⟨a3, b3⟩ ⟨a4, b4⟩)))))) (fun _ => dr_f _ _))))
theorem dr_water (h : rv_ps PL WA TO BI) (hK : ∀ PL WA OA TO BI nm q', rv_ps PL WA TO BI → rv_Dr (K PL WA OA TO BI nm q')) : rv_Dr (fun P => sp_water T PL WA OA TO BI nm q (fun f a => P (.inl (f, a))) (fun PL WA OA TO BI nm q' => K PL WA OA TO BI nm q' P)) := by
  unfold sp_water
  exact dr_num (fun _ _ => dr_if (fun _ => dr_num (fun a b => hK _ _ _ _ _ _ _ ((h.wa ⟨a, b⟩).pl (rv_up_n (by decide)) (rv_up_n (by decide)) (by rw [rv_up_n (by decide)]; exact h.2.2.1) (by rw [rv_up_n (by decide)]; exact h.2.2.2.1) (by rw [rv_up_n (by decide)]; exact h.2.2.2.2.1)))) (fun _ => dr_f _ _))
theorem dr_bid (h : rv_ps PL WA TO BI) (hK : ∀ PL WA OA TO BI nm q', rv_ps PL WA TO BI → rv_Dr (K PL WA OA TO BI nm q')) : rv_Dr (fun P => sp_bid T PL WA OA TO BI nm q (fun f a => P (.inl (f, a))) (fun PL WA OA TO BI nm q' => K PL WA OA TO BI nm q' P)) := by
  unfold sp_bid
  exact dr_if (fun _ => dr_f _ _) (fun c => dr_nam (dr_find (fun r hr => dr_if (fun _ => dr_f _ _) (fun n1 => dr_num (fun a b => dr_if (fun c0 => dr_num (fun a2 b2 => hK _ _ _ _ _ _ _ (h.bi (by omega) (by omega) c0 c ⟨a2, b2⟩))) (fun _ => dr_f _ _))))))
theorem dr_need (h : rv_ps PL WA TO BI) (hK : ∀ PL WA OA TO BI nm q', rv_ps PL WA TO BI → rv_Dr (K PL WA OA TO BI nm q')) : rv_Dr (fun P => sp_need T PL WA OA TO BI nm q (fun f a => P (.inl (f, a))) (fun PL WA OA TO BI nm q' => K PL WA OA TO BI nm q' P)) := by
  unfold sp_need
  exact dr_nam (dr_find (fun r hr => dr_if (fun _ => dr_f _ _) (fun n1 => dr_if (fun _ => dr_num (fun a b => hK _ _ _ _ _ _ _ (h.to (by omega) ⟨a, b⟩))) (fun _ => dr_f _ _))))
theorem dr_mill (h : rv_ps PL WA TO BI) (hK : ∀ PL WA OA TO BI nm q', rv_ps PL WA TO BI → rv_Dr (K PL WA OA TO BI nm q')) : rv_Dr (fun P => sp_mill T PL WA OA TO BI nm q (fun f a => P (.inl (f, a))) (fun PL WA OA TO BI nm q' => K PL WA OA TO BI nm q' P)) := by
  unfold sp_mill
  exact dr_nam (dr_find (fun r hr => dr_if (fun _ => dr_f _ _) (fun n1 => dr_if (fun _ => dr_num (fun a b => hK _ _ _ _ _ _ _ (h.to (by omega) ⟨a, by omega⟩))) (fun _ => dr_f _ _))))
theorem dr_bridge (h : rv_ps PL WA TO BI) (hK : ∀ PL WA OA TO BI nm q', rv_ps PL WA TO BI → rv_Dr (K PL WA OA TO BI nm q')) : rv_Dr (fun P => sp_bridge T PL WA OA TO BI nm q (fun f a => P (.inl (f, a))) (fun PL WA OA TO BI nm q' => K PL WA OA TO BI nm q' P)) := by
  unfold sp_bridge
  exact dr_nam (dr_find (fun r hr => dr_if (fun _ => dr_f _ _) (fun n1 => dr_if (fun _ => dr_num (fun a b => hK _ _ _ _ _ _ _ (h.to (by omega) ⟨a, by omega⟩))) (fun _ => dr_f _ _))))
theorem dr_field (h : rv_ps PL WA TO BI) (hK : ∀ PL WA OA TO BI nm q', rv_ps PL WA TO BI → rv_Dr (K PL WA OA TO BI nm q')) : rv_Dr (fun P => sp_field T PL WA OA TO BI nm q (fun f a => P (.inl (f, a))) (fun PL WA OA TO BI nm q' => K PL WA OA TO BI nm q' P)) := by
  unfold sp_field
  exact dr_nam (dr_find (fun r hr => dr_if (fun _ => dr_f _ _) (fun n1 => dr_if (fun _ => dr_num (fun a b => dr_num (fun a2 b2 => hK _ _ _ _ _ _ _ ((h.to (by omega) ⟨a2, by omega⟩).to (by omega) ⟨a, by omega⟩)))) (fun _ => dr_f _ _))))
theorem dr_move (h : rv_ps PL WA TO BI) (hK : ∀ PL WA OA TO BI nm q', rv_ps PL WA TO BI → rv_Dr (K PL WA OA TO BI nm q')) : rv_Dr (fun P => sp_move T PL WA OA TO BI nm q (fun f a => P (.inl (f, a))) (fun PL WA OA TO BI nm q' => K PL WA OA TO BI nm q' P)) := by
  unfold sp_move
  exact dr_if (fun _ => dr_num (fun a b => hK _ _ _ _ _ _ _ (h.pl ((rv_up_n (by decide)).trans (rv_up_n (by decide))) ((rv_up_n (by decide)).trans (rv_up_n (by decide))) (by rw [rv_up_s]; exact ⟨a, b⟩) (by rw [rv_up_n (by decide), rv_up_n (by decide)]; exact h.2.2.2.1) (by rw [rv_up_n (by decide), rv_up_n (by decide)]; exact h.2.2.2.2.1)))) (fun _ => dr_f _ _)
theorem dr_fish (h : rv_ps PL WA TO BI) (hK : ∀ PL WA OA TO BI nm q', rv_ps PL WA TO BI → rv_Dr (K PL WA OA TO BI nm q')) : rv_Dr (fun P => sp_fish T PL WA OA TO BI nm q (fun f a => P (.inl (f, a))) (fun PL WA OA TO BI nm q' => K PL WA OA TO BI nm q' P)) := by
  unfold sp_fish
  exact dr_if (fun _ => dr_num (fun a b => hK _ _ _ _ _ _ _ (h.pl ((rv_up_n (by decide)).trans (rv_up_n (by decide))) ((rv_up_n (by decide)).trans (rv_up_n (by decide))) (by rw [rv_up_n (by decide), rv_up_n (by decide)]; exact h.2.2.1) (by rw [rv_up_s]; exact ⟨a, b⟩) (by rw [rv_up_n (by decide), rv_up_n (by decide)]; exact h.2.2.2.2.1)))) (fun _ => dr_f _ _)
theorem dr_patience (h : rv_ps PL WA TO BI) (hK : ∀ PL WA OA TO BI nm q', rv_ps PL WA TO BI → rv_Dr (K PL WA OA TO BI nm q')) : rv_Dr (fun P => sp_patience T PL WA OA TO BI nm q (fun f a => P (.inl (f, a))) (fun PL WA OA TO BI nm q' => K PL WA OA TO BI nm q' P)) := by
  unfold sp_patience
  exact dr_if (fun _ => dr_num (fun a b => hK _ _ _ _ _ _ _ (h.pl ((rv_up_n (by decide)).trans (rv_up_n (by decide))) ((rv_up_n (by decide)).trans (rv_up_n (by decide))) (by rw [rv_up_n (by decide), rv_up_n (by decide)]; exact h.2.2.1) (by rw [rv_up_n (by decide), rv_up_n (by decide)]; exact h.2.2.2.1) (by rw [rv_up_s]; exact ⟨a, b⟩)))) (fun _ => dr_f _ _)
theorem dr_row (h : rv_ps PL WA TO BI) (hK : ∀ PL WA OA TO BI nm q', rv_ps PL WA TO BI → rv_Dr (K PL WA OA TO BI nm q')) : rv_Dr (fun P => sp_row T PL WA OA TO BI nm q (fun f a => P (.inl (f, a))) (fun PL WA OA TO BI nm q' => K PL WA OA TO BI nm q' P)) := by
  by_cases c : (T q).1 = 1 ∧ ¬ rv_nam (T q).2.2.2.1
  · have : ∃ j, j < 24 ∧ rv_rs.getD j [] = (T q).2.2.2.1 := Classical.byContradiction (fun g => c.2 (fun j hj e => g ⟨j, hj, e⟩))
    obtain ⟨j, j1, hj⟩ := this
    have key : rv_Dr (fun P => (j = 0 → sp_town T PL WA OA TO BI nm q (fun f a => P (.inl (f, a))) (fun PL WA OA TO BI nm q' => K PL WA OA TO BI nm q' P)) ∧ (j = 1 → sp_water T PL WA OA TO BI nm q (fun f a => P (.inl (f, a))) (fun PL WA OA TO BI nm q' => K PL WA OA TO BI nm q' P)) ∧ (j = 2 → sp_bid T PL WA OA TO BI nm q (fun f a => P (.inl (f, a))) (fun PL WA OA TO BI nm q' => K PL WA OA TO BI nm q' P)) ∧ (j = 3 → sp_need T PL WA OA TO BI nm q (fun f a => P (.inl (f, a))) (fun PL WA OA TO BI nm q' => K PL WA OA TO BI nm q' P)) ∧ (j = 4 → sp_mill T PL WA OA TO BI nm q (fun f a => P (.inl (f, a))) (fun PL WA OA TO BI nm q' => K PL WA OA TO BI nm q' P)) ∧ (j = 5 → sp_bridge T PL WA OA TO BI nm q (fun f a => P (.inl (f, a))) (fun PL WA OA TO BI nm q' => K PL WA OA TO BI nm q' P)) ∧ (j = 6 → sp_field T PL WA OA TO BI nm q (fun f a => P (.inl (f, a))) (fun PL WA OA TO BI nm q' => K PL WA OA TO BI nm q' P)) ∧ (j = 7 → sp_move T PL WA OA TO BI nm q (fun f a => P (.inl (f, a))) (fun PL WA OA TO BI nm q' => K PL WA OA TO BI nm q' P)) ∧ (j = 8 → sp_fish T PL WA OA TO BI nm q (fun f a => P (.inl (f, a))) (fun PL WA OA TO BI nm q' => K PL WA OA TO BI nm q' P)) ∧ (j = 9 → sp_patience T PL WA OA TO BI nm q (fun f a => P (.inl (f, a))) (fun PL WA OA TO BI nm q' => K PL WA OA TO BI nm q' P)) ∧ (10 ≤ j → P (.inl (1, (T q).2.1)))) := by
      rcases Nat.lt_or_ge j 10 with q1 | q1
      · have hjj : j = 0 ∨ j = 1 ∨ j = 2 ∨ j = 3 ∨ j = 4 ∨ j = 5 ∨ j = 6 ∨ j = 7 ∨ j = 8 ∨ j = 9 := by omega
        rcases hjj with rfl | rfl | rfl | rfl | rfl | rfl | rfl | rfl | rfl | rfl
        · obtain ⟨y, hr, hy⟩ := dr_town (T := T) (PL := PL) (WA := WA) (OA := OA) (TO := TO) (BI := BI) (nm := nm) (q := q) h hK
          exact ⟨y, hr, fun P p => ⟨fun _ => hy P p, fun e => absurd e (by decide), fun e => absurd e (by decide), fun e => absurd e (by decide), fun e => absurd e (by decide), fun e => absurd e (by decide), fun e => absurd e (by decide), fun e => absurd e (by decide), fun e => absurd e (by decide), fun e => absurd e (by decide), fun e => absurd e (by decide)⟩⟩
        · obtain ⟨y, hr, hy⟩ := dr_water (T := T) (PL := PL) (WA := WA) (OA := OA) (TO := TO) (BI := BI) (nm := nm) (q := q) h hK
          exact ⟨y, hr, fun P p => ⟨fun e => absurd e (by decide), fun _ => hy P p, fun e => absurd e (by decide), fun e => absurd e (by decide), fun e => absurd e (by decide), fun e => absurd e (by decide), fun e => absurd e (by decide), fun e => absurd e (by decide), fun e => absurd e (by decide), fun e => absurd e (by decide), fun e => absurd e (by decide)⟩⟩
        · obtain ⟨y, hr, hy⟩ := dr_bid (T := T) (PL := PL) (WA := WA) (OA := OA) (TO := TO) (BI := BI) (nm := nm) (q := q) h hK
          exact ⟨y, hr, fun P p => ⟨fun e => absurd e (by decide), fun e => absurd e (by decide), fun _ => hy P p, fun e => absurd e (by decide), fun e => absurd e (by decide), fun e => absurd e (by decide), fun e => absurd e (by decide), fun e => absurd e (by decide), fun e => absurd e (by decide), fun e => absurd e (by decide), fun e => absurd e (by decide)⟩⟩
        · obtain ⟨y, hr, hy⟩ := dr_need (T := T) (PL := PL) (WA := WA) (OA := OA) (TO := TO) (BI := BI) (nm := nm) (q := q) h hK
          exact ⟨y, hr, fun P p => ⟨fun e => absurd e (by decide), fun e => absurd e (by decide), fun e => absurd e (by decide), fun _ => hy P p, fun e => absurd e (by decide), fun e => absurd e (by decide), fun e => absurd e (by decide), fun e => absurd e (by decide), fun e => absurd e (by decide), fun e => absurd e (by decide), fun e => absurd e (by decide)⟩⟩
        · obtain ⟨y, hr, hy⟩ := dr_mill (T := T) (PL := PL) (WA := WA) (OA := OA) (TO := TO) (BI := BI) (nm := nm) (q := q) h hK
          exact ⟨y, hr, fun P p => ⟨fun e => absurd e (by decide), fun e => absurd e (by decide), fun e => absurd e (by decide), fun e => absurd e (by decide), fun _ => hy P p, fun e => absurd e (by decide), fun e => absurd e (by decide), fun e => absurd e (by decide), fun e => absurd e (by decide), fun e => absurd e (by decide), fun e => absurd e (by decide)⟩⟩
        · obtain ⟨y, hr, hy⟩ := dr_bridge (T := T) (PL := PL) (WA := WA) (OA := OA) (TO := TO) (BI := BI) (nm := nm) (q := q) h hK
          exact ⟨y, hr, fun P p => ⟨fun e => absurd e (by decide), fun e => absurd e (by decide), fun e => absurd e (by decide), fun e => absurd e (by decide), fun e => absurd e (by decide), fun _ => hy P p, fun e => absurd e (by decide), fun e => absurd e (by decide), fun e => absurd e (by decide), fun e => absurd e (by decide), fun e => absurd e (by decide)⟩⟩
        · obtain ⟨y, hr, hy⟩ := dr_field (T := T) (PL := PL) (WA := WA) (OA := OA) (TO := TO) (BI := BI) (nm := nm) (q := q) h hK
          exact ⟨y, hr, fun P p => ⟨fun e => absurd e (by decide), fun e => absurd e (by decide), fun e => absurd e (by decide), fun e => absurd e (by decide), fun e => absurd e (by decide), fun e => absurd e (by decide), fun _ => hy P p, fun e => absurd e (by decide), fun e => absurd e (by decide), fun e => absurd e (by decide), fun e => absurd e (by decide)⟩⟩
        · obtain ⟨y, hr, hy⟩ := dr_move (T := T) (PL := PL) (WA := WA) (OA := OA) (TO := TO) (BI := BI) (nm := nm) (q := q) h hK
          exact ⟨y, hr, fun P p => ⟨fun e => absurd e (by decide), fun e => absurd e (by decide), fun e => absurd e (by decide), fun e => absurd e (by decide), fun e => absurd e (by decide), fun e => absurd e (by decide), fun e => absurd e (by decide), fun _ => hy P p, fun e => absurd e (by decide), fun e => absurd e (by decide), fun e => absurd e (by decide)⟩⟩
        · obtain ⟨y, hr, hy⟩ := dr_fish (T := T) (PL := PL) (WA := WA) (OA := OA) (TO := TO) (BI := BI) (nm := nm) (q := q) h hK
          exact ⟨y, hr, fun P p => ⟨fun e => absurd e (by decide), fun e => absurd e (by decide), fun e => absurd e (by decide), fun e => absurd e (by decide), fun e => absurd e (by decide), fun e => absurd e (by decide), fun e => absurd e (by decide), fun e => absurd e (by decide), fun _ => hy P p, fun e => absurd e (by decide), fun e => absurd e (by decide)⟩⟩
        · obtain ⟨y, hr, hy⟩ := dr_patience (T := T) (PL := PL) (WA := WA) (OA := OA) (TO := TO) (BI := BI) (nm := nm) (q := q) h hK
          exact ⟨y, hr, fun P p => ⟨fun e => absurd e (by decide), fun e => absurd e (by decide), fun e => absurd e (by decide), fun e => absurd e (by decide), fun e => absurd e (by decide), fun e => absurd e (by decide), fun e => absurd e (by decide), fun e => absurd e (by decide), fun e => absurd e (by decide), fun _ => hy P p, fun e => absurd e (by decide)⟩⟩
      · exact ⟨.inl (1, (T q).2.1), dr_l _, fun P p => ⟨fun e => absurd e (by omega), fun e => absurd e (by omega), fun e => absurd e (by omega), fun e => absurd e (by omega), fun e => absurd e (by omega), fun e => absurd e (by omega), fun e => absurd e (by omega), fun e => absurd e (by omega), fun e => absurd e (by omega), fun e => absurd e (by omega), fun _ => p⟩⟩
    obtain ⟨y, hr, hy⟩ := key
    refine ⟨y, hr, fun P p => ⟨fun i i1 _ hi => ?_, fun n => absurd c n⟩⟩
    have e : i = j := rv_rs_i i i1 j j1 (hi.trans hj.symm)
    rw [e]; exact hy P p
  · exact ⟨.inl (1, (T q).2.1), dr_l _, fun P p => ⟨fun i i1 a b => absurd ⟨a, fun n => n i i1 b⟩ c, fun _ => p⟩⟩
theorem dr_rows : ∀ (f : Nat) (PL WA OA : Nat → Int) (TO BI : Nat → Nat → Int) (nm : Nat → List Int) (r q : Nat), rv_ps PL WA TO BI → rv_Dr (fun P => sp_rows T (fun f a => P (.inl (f, a))) (fun PL WA OA TO BI nm r => P (.inr (PL, WA, OA, TO, BI, nm, r))) f PL WA OA TO BI nm r q)
  | 0, _, _, _, _, _, _, _, _, _ => ⟨.inl (0, 0), dr_l _, fun _ _ => trivial⟩
  | f + 1, PL, WA, OA, TO, BI, nm, r, q, h => by
    by_cases c0 : (T q).1 = 0
    · exact ⟨.inr (PL, WA, OA, TO, BI, nm, r), fun _ _ _ _ _ _ _ e => by cases e; exact h, fun P p => ⟨fun _ => p, fun e => absurd (c0.symm.trans e) (by decide), fun n => absurd c0 n⟩⟩
    · by_cases c5 : (T q).1 = 5
      · exact ⟨.inl (1, (T q).2.1), dr_l _, fun P p => ⟨fun e => absurd e c0, fun _ => p, fun _ n => absurd c5 n⟩⟩
      · obtain ⟨y, hr, hy⟩ := dr_row (T := T) (PL := PL) (WA := WA) (OA := OA) (TO := TO) (BI := BI) (nm := nm) (q := q) (K := fun PL' WA' OA' TO' BI' nm' q' P => sp_sgn T 59 (rv_x T q') (fun f a => P (.inl (f, a))) (sp_rows T (fun f a => P (.inl (f, a))) (fun PL WA OA TO BI nm r => P (.inr (PL, WA, OA, TO, BI, nm, r))) f PL' WA' OA' TO' BI' nm' (r + 1) (rv_x T (rv_x T q')))) h (fun PL' WA' OA' TO' BI' nm' q' h' => dr_sgn (dr_rows f PL' WA' OA' TO' BI' nm' (r + 1) (rv_x T (rv_x T q')) h'))
        exact ⟨y, hr, fun P p => ⟨fun e => absurd e c0, fun e => absurd e c5, fun _ _ => hy P p⟩⟩
end DS
theorem rv_0.ps {PL WA OA : Nat → Int} {TO BI : Nat → Nat → Int} {NA : Nat → Int64} (h : rv_0 PL WA OA TO BI NA) : rv_ps PL WA TO BI := by
  obtain ⟨h1, h2, h4, h5, h6, h7, h8, -⟩ := h
  refine ⟨by omega, by omega, by omega, by omega, by omega, fun t v ht hv => ?_, fun v hv => ?_, fun t v ht hv => ?_, ?_⟩
  · have := (h1 t ht).2.2.1 v hv; omega
  · have := h2 v hv; omega
  · have := (h1 t ht).2.2.2 v hv; omega
  · rw [h5]; unfold rv_ct
    rw [lq_ct_cg (g := fun _ => 0) 96 (fun i hi => (h1 (i / 12) (by omega)).2.2.2 (i % 12) (by omega))]
    exact (by decide +kernel : (0 : Int) = lq_ct (fun _ => 0) 96)
end
section
/-! ===== plain, as the law's loop uses it ===== -/
def lp_5 (G : mj_G) (M : mj_M) : Prop := ∀ a, G a = (25104, 8) ∨ G a = (27104, 8) → ∀ s t, s < 8 → t < 8 → M.2.2 a s = M.2.2 a t → s = t
def lp_6 (G : mj_G) (M : mj_M) (tp m bc bt : Nat) : Prop := G bc = (38101, 940) ∧ G bt = (50101, 940) ∧ M.2.2 tp 0 = some bc ∧ M.2.2 m 1 = some bt ∧ rv_wl G M ∧ lp_5 G M
abbrev lp_6c (W : List (Nat × Nat × Nat)) : Prop := ∀ q ∈ W, q.1 ≠ 900105 ∧ q.1 ≠ 25104 ∧ q.1 ≠ 27104 ∧ ¬ (q.1 = 1008 ∧ q.2.1 ≤ 0) ∧ ¬ (q.1 = 1012 ∧ q.2.1 ≤ 1 ∧ 1 ≤ q.2.2)
abbrev lp_7c (W : List (Nat × Nat × Nat)) : Prop := ∀ q ∈ W, q.1 ≠ 38101 ∧ q.1 ≠ 50101
theorem lp_6.go {G : mj_G} {M M' : mj_M} {tp m bc bt : Nat} {W : List (Nat × Nat × Nat)} (h : lp_6 G M tp m bc bt) (gt : G tp = (1008, 0)) (gm : G m = (1012, 0)) (f : ab_frm W G M M') (nc : lp_6c W) : lp_6 G M' tp m bc bt := by
  obtain ⟨g1, g2, r1, r2, w, l5⟩ := h
  refine ⟨g1, g2, (f tp 0 ?_).2.trans r1, (f m 1 ?_).2.trans r2, fun a ha k hk => ?_, fun a ha s t hs ht e => ?_⟩
  · rw [gt]; rintro ⟨q, hq, e1, e2, e3⟩; exact (nc q hq).2.2.2.1 ⟨e1, e2⟩
  · rw [gm]; rintro ⟨q, hq, e1, e2, e3⟩; exact (nc q hq).2.2.2.2 ⟨e1, e2, e3⟩
  · obtain ⟨w1, e1, e2⟩ := w a ha k hk
    refine ⟨w1, (f a k ?_).2.trans e1, e2⟩
    rw [ha]; rintro ⟨q, hq, e1, -⟩; exact (nc q hq).1 e1
  · have fr : ∀ k, M'.2.2 a k = M.2.2 a k := fun k => (f a k (by
      rcases ha with ha | ha
      · rw [ha]; rintro ⟨q, hq, e1, -⟩; exact (nc q hq).2.1 e1
      · rw [ha]; rintro ⟨q, hq, e1, -⟩; exact (nc q hq).2.2.1 e1)).2
    rw [fr s, fr t] at e
    exact l5 a ha s t hs ht e
theorem lp_7.c {G : mj_G} {M M' : mj_M} {bc : Nat} {W : List (Nat × Nat × Nat)} (g : G bc = (38101, 940)) (f : ab_frm W G M M') (nc : ∀ q ∈ W, q.1 ≠ 38101) : M'.1 bc = M.1 bc := funext fun k => (f bc k (by rw [g]; rintro ⟨q, hq, e1, -⟩; exact nc q hq e1)).1
theorem lp_7.t {G : mj_G} {M M' : mj_M} {bt : Nat} {W : List (Nat × Nat × Nat)} (g : G bt = (50101, 940)) (f : ab_frm W G M M') (nc : ∀ q ∈ W, q.1 ≠ 50101) : M'.1 bt = M.1 bt := funext fun k => (f bt k (by rw [g]; rintro ⟨q, hq, e1, -⟩; exact nc q hq e1)).1
theorem rv_row {G : mj_G} {M : mj_M} {a t n u k w : Nat} (hI : ab_Inv G M) (ha : G a = (t, n)) (e : ab_rf t 0 = some (u, w)) (e' : ∀ k, ab_rf t k = ab_rf t 0) (h1 : u ≠ 0) (h2 : u ≠ 1) (h3 : u ≠ 50) (hk : k < n) : M.2.2 a k = some ((M.2.2 a k).getD 0) ∧ G ((M.2.2 a k).getD 0) = (u, w) := by
  obtain ⟨b, hb, gb⟩ := hn_rf (k := k) (q := (u, w)) hI ha ((e' k).trans e) h1 h2 h3 (fun _ => hk)
  rw [hb]; exact ⟨rfl, gb⟩
theorem lp_size {G : mj_G} {M : mj_M} {tp : Nat} (hI : ab_Inv G M) (g : G tp = (1008, 0)) : ∃ n : Nat, n ≤ 940 ∧ M.1 tp 1 = (n : Int) := by
  have h := hI.1 tp 1
  rw [g] at h
  have h : (0 : Int) ≤ M.1 tp 1 ∧ M.1 tp 1 ≤ 940 := h
  exact ⟨(M.1 tp 1).toNat, by omega, by omega⟩
theorem ab_rsv8 : ∀ k, k < 24 → ab_rsv k = rv_8 (rv_rs.getD k []) := by
  intro k hk
  have h : ∀ k : Fin 24, ab_rsv k.val = rv_8 (rv_rs.getD k.val []) := by decide +kernel
  exact h ⟨k, hk⟩
/-- two tellings of one call -/
theorem lp_and {y : Nat} {av : List mj_V} {G : mj_G} {M : mj_M} {R R' Q : mj_P} (hk : an_ok mj_tab 40 y = true) (h1 : mj_R mj_tab 40 y av G M R) (h2 : mj_R mj_tab 40 y av G M R') (h : ∀ r G M, R r G M → R' r G M → Q r G M) : mj_R mj_tab 40 y av G M Q := mj_R_mo mj_tab 40 _ _ _ _ _ _ (fun r G M q => h r G M q.1 q.2) (an_R mj_tab 40 y av G M R R' hk h1 h2)
theorem lp_ok4 : an_ok mj_tab 40 138 = true ∧ an_ok mj_tab 40 226 = true ∧ an_ok mj_tab 40 124 = true ∧ an_ok mj_tab 40 187 = true := by decide +kernel
/-! ===== the PLAINS behind a call that doesn't write them ===== -/
abbrev lq_9c (W : List (Nat × Nat × Nat)) : Prop := ∀ q ∈ W, q.1 ≠ 25104 ∧ q.1 ≠ 26100 ∧ q.1 ≠ 27104 ∧ q.1 ≠ 29100 ∧ q.1 ≠ 47106 ∧ ¬ (q.1 = 1004 ∧ q.2.1 < 9) ∧ ¬ (q.1 = 1011 ∧ q.2.1 ≤ 3) ∧ ¬ (q.1 = 1007 ∧ q.2.1 = 0) ∧ q.1 ≠ 28100
abbrev lq_8c (W : List (Nat × Nat × Nat)) : Prop := lq_9c W ∧ ∀ q ∈ W, q.1 ≠ 48102 ∧ q.1 ≠ 70100 ∧ ¬ (q.1 = 51100 ∧ q.2.1 < 184)
section GO
variable {G : mj_G} {M M' : mj_M} {w : Nat → Nat} {x p q P : Nat} {W : List (Nat × Nat × Nat)}
theorem lq_B.go (hB : lq_B M w x) (hA : lq_A G w) (gx : G x = (1011, 0)) (f : ab_frm W G M M') (c : lq_9c W) : lq_B M' w x := by
  obtain ⟨b1, b2, b3, b4, b5, b6, b7, b8⟩ := hB
  obtain ⟨-, a2, a3, a4, a5, a6, a7⟩ := hA
  have hx : ∀ k, k < 4 → M'.2.2 x k = M.2.2 x k := fun k hk => (f x k (by
    rw [gx]; rintro ⟨r, hr, e1, e2, e3⟩; exact (c r hr).2.2.2.2.2.2.1 ⟨e1, by omega⟩)).2
  have h9 : ∀ k, M'.2.2 (w 119) k = M.2.2 (w 119) k := fun k => (f _ k (by
    rw [a7]; rintro ⟨r, hr, e1, e2, e3⟩; exact (c r hr).2.2.2.2.1 e1)).2
  have h7 : ∀ a, G a = (1007, 0) → M'.2.2 a 0 = M.2.2 a 0 := fun a ha => (f _ 0 (by
    rw [ha]; rintro ⟨r, hr, e1, e2, e3⟩; exact (c r hr).2.2.2.2.2.2.2.1 ⟨e1, by omega⟩)).2
  refine ⟨fun P hP => ?_, (hx 1 (by decide)).trans b2, (hx 2 (by decide)).trans b3, (hx 3 (by decide)).trans b4, (h9 0).trans b5, (h9 1).trans b6, (h7 _ a5).trans b7, (h7 _ a6).trans b8⟩
  obtain ⟨g1, g2, g3, g4, g5, g6, g7⟩ := a2 P hP
  obtain ⟨c1, c2, c3, c4, c5, c6⟩ := b1 P hP
  have hp : ∀ k, k < 4 → M'.2.2 (w P) k = M.2.2 (w P) k := fun k hk => (f _ k (by
    rw [g1]; rintro ⟨r, hr, e1, e2, e3⟩; exact (c r hr).2.2.2.2.2.1 ⟨e1, by omega⟩)).2
  refine ⟨(hp 0 (by decide)).trans c1, (hp 1 (by decide)).trans c2, (hp 2 (by decide)).trans c3, (hp 3 (by decide)).trans c4, fun t ht => (f _ t ?_).2.trans (c5 t ht), fun t ht => (f _ t ?_).2.trans (c6 t ht)⟩
  · rw [g3]; rintro ⟨r, hr, e1, e2, e3⟩; exact (c r hr).1 e1
  · rw [g4]; rintro ⟨r, hr, e1, e2, e3⟩; exact (c r hr).2.2.1 e1
theorem lq_N.go (hN : lq_N M w p q) (hA : lq_A G w) (f : ab_frm W G M M') (c : lq_9c W) : lq_N M' w p q := by
  obtain ⟨n1, n2, n3⟩ := hN
  have h7 : ∀ a, G a = (1007, 0) → M'.2.2 a 0 = M.2.2 a 0 := fun a ha => (f _ 0 (by
    rw [ha]; rintro ⟨r, hr, e1, e2, e3⟩; exact (c r hr).2.2.2.2.2.2.2.1 ⟨e1, by omega⟩)).2
  exact ⟨(h7 _ hA.2.2.1).trans n1, (h7 _ hA.2.2.2.1).trans n2, n3⟩
/-- the numbers of a PLAIN that counts are as they were -/
def lq_E (w : Nat → Nat) (P : Nat) (M M' : mj_M) : Prop := (M'.1 (w P) 4 = M.1 (w P) 4 ∧ M'.1 (w P) 6 = M.1 (w P) 6 ∧ M'.1 (w P) 7 = M.1 (w P) 7 ∧ M'.1 (w P) 8 = M.1 (w P) 8) ∧ (∀ t v, t < 8 → v < 9 → M'.1 (w (P + 3 + t)) v = M.1 (w (P + 3 + t)) v) ∧ (∀ v, v < 12 → M'.1 (w (P + 20)) v = M.1 (w (P + 20)) v)
def lq_E6 (w : Nat → Nat) (P : Nat) (M M' : mj_M) : Prop := lq_E w P M M' ∧ M'.1 (w P) 5 = M.1 (w P) 5 ∧ (∀ t v, t < 8 → v < 12 → M'.1 (w (P + 12 + t)) v = M.1 (w (P + 12 + t)) v)
theorem lq_E6.go (hA : lq_A G w) (hP : P ∈ lq_Ps) (f : ab_frm W G M M') (c : lq_9c W) : lq_E6 w P M M' := by
  obtain ⟨g1, g2, g3, g4, g5, g6, g7⟩ := hA.2.1 P hP
  have hp : ∀ k, k < 9 → M'.1 (w P) k = M.1 (w P) k := fun k hk => (f _ k (by
    rw [g1]; rintro ⟨r, hr, e1, e2, e3⟩; exact (c r hr).2.2.2.2.2.1 ⟨e1, by omega⟩)).1
  refine ⟨⟨⟨hp 4 (by decide), hp 6 (by decide), hp 7 (by decide), hp 8 (by decide)⟩, fun t v ht hv => (f _ v ?_).1, fun v hv => (f _ v ?_).1⟩, hp 5 (by decide), fun t v ht hv => (f _ v ?_).1⟩
  · rw [g6 t ht]; rintro ⟨r, hr, e1, e2, e3⟩; exact (c r hr).2.1 e1
  · rw [g5]; rintro ⟨r, hr, e1, e2, e3⟩; exact (c r hr).2.2.2.1 e1
  · rw [g7 t ht]; rintro ⟨r, hr, e1, e2, e3⟩; exact (c r hr).2.2.2.2.2.2.2.2 e1
/-- a PLAIN with its bids and their count against numbers from o on -/
def rv_G6 (H : Nat → Int) (o : Nat) (w : Nat → Nat) (P : Nat) (M : mj_M) : Prop := rv_G4 H o w P M ∧ (∀ t v, t < 8 → v < 12 → H (o + (88 + 12 * t + v)) = M.1 (w (P + 12 + t)) v) ∧ M.1 (w P) 5 = lq_ct (fun i => H (o + (88 + i))) 96
theorem rv_G4.cg {H H' : Nat → Int} {o o' : Nat} (h : rv_G4 H o w P M) (e : lq_E w P M M') (eh : ∀ k, k < 88 → H' (o' + k) = H (o + k)) : rv_G4 H' o' w P M' := by
  obtain ⟨h1, h2, h3, h4, h5, h6⟩ := h
  obtain ⟨⟨e1, e2, e3, e4⟩, e5, e6⟩ := e
  refine ⟨(eh 0 (by decide)).trans (h1.trans e1.symm), (eh 1 (by decide)).trans (h2.trans e2.symm), (eh 2 (by decide)).trans (h3.trans e3.symm), (eh 3 (by decide)).trans (h4.trans e4.symm), fun t v ht hv => (eh _ (by omega)).trans ((h5 t v ht hv).trans (e5 t v ht hv).symm), fun v hv => (eh _ (by omega)).trans ((h6 v hv).trans (e6 v hv).symm)⟩
theorem rv_G6.cg {H H' : Nat → Int} {o o' : Nat} (h : rv_G6 H o w P M) (e : lq_E6 w P M M') (eh : ∀ k, k < 184 → H' (o' + k) = H (o + k)) : rv_G6 H' o' w P M' := by
  obtain ⟨h1, h2, h3⟩ := h
  obtain ⟨e1, e2, e3⟩ := e
  refine ⟨h1.cg e1 (fun k hk => eh k (by omega)), fun t v ht hv => (eh _ (by omega)).trans ((h2 t v ht hv).trans (e3 t v ht hv).symm), e2.trans (h3.trans (lq_ct_cg 96 (fun i hi => (eh _ (by omega)).symm)))⟩
/-- the PLAIN now and the images' of both sides -/
def lq_J (G : mj_G) (M : mj_M) (x s kp kc : Nat) (w : Nat → Nat) : Prop := lq_A G w ∧ lq_B M w x ∧ ∃ p q, lq_N M w p q ∧ rv_G6 (M.1 s) 0 w p M ∧ ∀ k, k < 2 → M.1 kc k ≠ 0 → rv_G6 (M.1 kp) (538 * k) w (lq_ip k) M
theorem lq_J.go {s kp kc : Nat} (h : lq_J G M x s kp kc w) (gx : G x = (1011, 0)) (gs : G s = (51100, 537)) (gk : G kp = (70100, 1076)) (gc : G kc = (48102, 2)) (f : ab_frm W G M M') (c : lq_8c W) : lq_J G M' x s kp kc w := by
  obtain ⟨hA, hB, p, q, hN, h1, h2⟩ := h
  have es : ∀ k, k < 184 → M'.1 s k = M.1 s k := fun k hk => (f _ k (by
    rw [gs]; rintro ⟨r, hr, e1, e2, e3⟩; exact (c.2 r hr).2.2 ⟨e1, by omega⟩)).1
  have ek : ∀ k, M'.1 kp k = M.1 kp k := fun k => (f _ k (by
    rw [gk]; rintro ⟨r, hr, e1, e2, e3⟩; exact (c.2 r hr).2.1 e1)).1
  have ec : ∀ k, M'.1 kc k = M.1 kc k := fun k => (f _ k (by
    rw [gc]; rintro ⟨r, hr, e1, e2, e3⟩; exact (c.2 r hr).1 e1)).1
  refine ⟨hA, hB.go hA gx f c.1, p, q, hN.go hA f c.1, h1.cg (lq_E6.go hA hN.pin.1 f c.1) (fun k hk => by rw [Nat.zero_add]; exact es k hk), fun k hk h0 => ?_⟩
  rw [ec k] at h0
  exact (h2 k hk h0).cg (lq_E6.go hA (lq_ip_in k) f c.1) (fun j _ => ek _)
end GO
end
section
/-! ===== at the loop's head: the tapes, the words, the rows ===== -/
theorem sz_ref {w : sx_w} {h : sx_H} {G : mj_G} {M : mj_M} {i k j : Nat} (hR : sx_RH w h G M) (hi : i < h.1) (h4 : k < 4096) (e : sx_g (sx_g h.2 i).2.2.2.2 k = some j) : M.2.2 (w.2.2.2 i) k = some (w.2.2.2 j) := by
  have r := ((hR.2.2.1 i hi).2.2 k h4).2.2
  rw [e] at r
  exact r.2
theorem sz_head2 {w : sx_w} {h : sx_H} {G : mj_G} {M : mj_M} (hR : sx_RH w h G M) (k2 : sz_hk h = true) : lp_6 (sz_G w h G) (sz_M w h G M) (w.2.2.2 27) (w.2.2.2 336) (w.2.2.2 28) (w.2.2.2 337) ∧ (sz_M w h G M).1 (w.2.2.2 28) = (sz_M w h G M).1 (w.2.2.2 337) := by
  have n1 := (sz_hk_s k2).1
  obtain ⟨d1, wt, t1, t2, r1, r2, z1, z2⟩ := sz_hx_s k2
  have cell : ∀ a t n, sz_G w h G a = (t, n) → t ≠ 0 → ∃ i, i < h.1 ∧ w.2.2.2 i = a ∧ (sx_g h.2 i).1 = t := by
    intro a t n hG ht
    by_cases c : ∃ i, i < h.1 ∧ w.2.2.2 i = a
    · obtain ⟨i, hi, rfl⟩ := c
      rw [sz_G_in hi, (hR.2.2.1 i hi).1] at hG
      exact ⟨i, hi, rfl, congrArg Prod.fst hG⟩
    · rw [sz_G_no c] at hG
      exact absurd (congrArg Prod.fst hG).symm ht
  refine ⟨⟨sz_tg_s t1 hR (by omega), sz_tg_s t2 hR (by omega), sz_rq_s r1 hR (by omega) (by decide), sz_rq_s r2 hR (by omega) (by decide), fun a ha k hk => ?_, fun a ha s t hs ht e => ?_⟩, funext fun k => ?_⟩
  · obtain ⟨i, hi, rfl, ht⟩ := cell a _ _ ha (by decide)
    obtain ⟨rfl, hp⟩ := (sz_d1_s (d1 i (by omega))).2.2 ht
    have hk1 : k + 1 < h.1 := by omega
    refine ⟨w.2.2.2 (1 + k), (show M.2.2 (w.2.2.2 25) k = some (w.2.2.2 (1 + k)) from sz_ref hR hi (by omega) (hp k hk)), ?_⟩
    rw [Nat.add_comm 1 k]
    exact sz_tg_s (wt k hk) hR hk1
  · have key : ∃ i, i < h.1 ∧ w.2.2.2 i = a ∧ ((sx_g h.2 i).1 = 25104 ∨ (sx_g h.2 i).1 = 27104) := by
      rcases ha with ha | ha
      · obtain ⟨i, hi, e1, e2⟩ := cell a _ _ ha (by decide)
        exact ⟨i, hi, e1, Or.inl e2⟩
      · obtain ⟨i, hi, e1, e2⟩ := cell a _ _ ha (by decide)
        exact ⟨i, hi, e1, Or.inr e2⟩
    obtain ⟨i, hi, rfl, ht2⟩ := key
    have hp := (sz_d1_s (d1 i (by omega))).2.1 ht2
    have e : M.2.2 (w.2.2.2 i) s = M.2.2 (w.2.2.2 i) t := e
    have q1 := sz_ref hR hi (show s < 4096 by omega) (hp s hs)
    have q2 := sz_ref hR hi (show t < 4096 by omega) (hp t ht)
    have b1 := ((hR.2.2.1 i hi).2.2 s (by omega)).2.2
    have b2 := ((hR.2.2.1 i hi).2.2 t (by omega)).2.2
    rw [hp s hs] at b1
    rw [hp t ht] at b2
    rw [q1, q2] at e
    have := hR.2.2.2 (i + 1 + s) (i + 1 + t) (by have := b1.1; have := hR.1; omega) (by have := b2.1; have := hR.1; omega) (Option.some.inj e)
    omega
  · have gg : ∀ i t, i < h.1 → sz_tg h i t 940 = true → 100 ≤ t % 1000 → sz_iz h i 940 = true → (sz_M w h G M).1 (w.2.2.2 i) k = 0 := by
      intro i t hi ht hm hz
      rcases Nat.lt_or_ge k 940 with q | q
      · exact sz_iz_s hz hR hi q (by omega)
      · refine sz_M_no (fun c => ?_)
        have g := sz_tg_s ht hR hi
        rw [sz_G_in hi] at g
        rw [g] at c
        have c2 := c.2
        rw [show sz_bd (t, 940).1 (t, 940).2 = 940 from sz_bd_a hm] at c2
        omega
    rw [gg 28 38101 (by omega) t1 (by decide) z1, gg 337 50101 (by omega) t2 (by decide) z2]
end
section
/-! ===== a PLAIN copied, as the invariant sees it ===== -/
section CQ
variable {G : mj_G} {M M' : mj_M} {w : Nat → Nat} {x p q P P' R : Nat}
theorem rv_G6.cp {H : Nat → Int} {o : Nat} (h : rv_G6 H o w P M) (c : lq_cp G w P P' M M') : rv_G6 H o w P' M' := by
  obtain ⟨⟨h1, h2, h3, h4, h5, h6⟩, h7, h8⟩ := h
  obtain ⟨c1, c2, c3, c4, -, -⟩ := c
  exact ⟨⟨h1.trans (c1 4 (by decide) (by decide)).symm, h2.trans (c1 6 (by decide) (by decide)).symm, h3.trans (c1 7 (by decide) (by decide)).symm, h4.trans (c1 8 (by decide) (by decide)).symm, fun t v ht hv => (h5 t v ht hv).trans (c2 t ht v hv).symm, fun v hv => (h6 v hv).trans (c4 v hv).symm⟩, fun t v ht hv => (h7 t v ht hv).trans (c3 t ht v hv).symm, (c1 5 (by decide) (by decide)).trans h8⟩
theorem lq_cp.E (hA : lq_A G w) (hP : P' ∈ lq_Ps) (hR : R ∈ lq_Ps) (hne : R ≠ P') (c : lq_cp G w P P' M M') : lq_E6 w R M M' := by
  obtain ⟨g1, g2, g3, g4, g5, g6, g7⟩ := hA.2.1 R hR
  have h4 := lq_P4 hP
  have h5 := lq_P4 hR
  have key : ∀ u, R ≤ u → u < R + 22 → rv_no (G (w u)).1 → M'.1 (w u) = M.1 (w u) := by
    intro u h1 h2 hn
    refine c.2.2.2.2.2 _ hn (fun e => ?_) (fun e => ?_) (fun t ht e => ?_) (fun t ht e => ?_)
    all_goals
      have := hA.1 _ _ (by omega) (by omega) e
      omega
  have k0 : M'.1 (w R) = M.1 (w R) := key R (by omega) (by omega) (by rw [g1]; unfold rv_no; decide)
  refine ⟨⟨⟨by rw [k0], by rw [k0], by rw [k0], by rw [k0]⟩, fun t v ht hv => ?_, fun v hv => ?_⟩, by rw [k0], fun t v ht hv => ?_⟩
  · rw [key (R + 3 + t) (by omega) (by omega) (by rw [g6 t ht]; unfold rv_no; decide)]
  · rw [key (R + 20) (by omega) (by omega) (by rw [g5]; unfold rv_no; decide)]
  · rw [key (R + 12 + t) (by omega) (by omega) (by rw [g7 t ht]; unfold rv_no; decide)]
theorem lq_cp.o (hA : lq_A G w) (hP : P' ∈ lq_Ps) (c : lq_cp G w P P' M M') {a t n : Nat} (ga : G a = (t, n)) (ha : rv_no t) (h1 : t ≠ 1004) (h2 : t ≠ 26100) (h3 : t ≠ 28100) (h4 : t ≠ 29100) : M'.1 a = M.1 a := by
  obtain ⟨g1, g2, g3, g4, g5, g6, g7⟩ := hA.2.1 P' hP
  exact c.2.2.2.2.2 a (by rw [ga]; exact ha) (hn_ne ga g1 h1) (hn_ne ga g5 h4) (fun t ht => hn_ne ga (g6 t ht) h2) (fun t ht => hn_ne ga (g7 t ht) h3)
theorem lq_cp.B (hA : lq_A G w) (gx : G x = (1011, 0)) (hB : lq_B M w x) (c : lq_cp G w P P' M M') : lq_B M' w x := hB.no hA gx c.2.2.2.2.1
theorem lq_cp.N (hA : lq_A G w) (hN : lq_N M w p q) (c : lq_cp G w P P' M M') : lq_N M' w p q :=
  ⟨(c.2.2.2.2.1 _ _ (lq_no29 hA).1).trans hN.1, (c.2.2.2.2.1 _ _ (lq_no29 hA).2).trans hN.2.1, hN.2.2⟩
theorem lq_E6.p0 {a k t n : Nat} {v : Int} (hA : lq_A G w) (hR : R ∈ lq_Ps) (ga : G a = (t, n)) (h1 : 1004 ≠ t) (h2 : 26100 ≠ t) (h4 : 29100 ≠ t) (h5 : 28100 ≠ t) : lq_E6 w R M (mj_p0 M a k v) := by
  obtain ⟨g1, g2, g3, g4, g5, g6, g7⟩ := hA.2.1 R hR
  exact ⟨⟨⟨hn_n (Or.inl (hn_ne g1 ga h1)), hn_n (Or.inl (hn_ne g1 ga h1)), hn_n (Or.inl (hn_ne g1 ga h1)), hn_n (Or.inl (hn_ne g1 ga h1))⟩, fun t v ht hv => hn_n (Or.inl (hn_ne (g6 t ht) ga h2)), fun v hv => hn_n (Or.inl (hn_ne g5 ga h4))⟩, hn_n (Or.inl (hn_ne g1 ga h1)), fun t v ht hv => hn_n (Or.inl (hn_ne (g7 t ht) ga h5))⟩
theorem lq_E.tr {M'' : mj_M} (h : lq_E w P M M') (h' : lq_E w P M' M'') : lq_E w P M M'' :=
  ⟨⟨h'.1.1.trans h.1.1, h'.1.2.1.trans h.1.2.1, h'.1.2.2.1.trans h.1.2.2.1, h'.1.2.2.2.trans h.1.2.2.2⟩, fun t v ht hv => (h'.2.1 t v ht hv).trans (h.2.1 t v ht hv), fun v hv => (h'.2.2 v hv).trans (h.2.2 v hv)⟩
theorem lq_E6.tr {M'' : mj_M} (h : lq_E6 w P M M') (h' : lq_E6 w P M' M'') : lq_E6 w P M M'' :=
  ⟨h.1.tr h'.1, h'.2.1.trans h.2.1, fun t v ht hv => (h'.2.2 t v ht hv).trans (h.2.2 t v ht hv)⟩
end CQ
end
section
/-! ===== image and restore of both sides ===== -/
section IR
variable {G : mj_G} {M M' : mj_M} {w : Nat → Nat} {x m s kp kc kr tp ud : Nat} {z1 : Int}
def lq_mk (M : mj_M) (kc kr : Nat) : Prop := ∀ k, k < 2 → M.1 kc k = M.1 kr k
/-- between image of the class and of the reference -/
def lq_i (G : mj_G) (M : mj_M) (x s kp kc kr : Nat) (w : Nat → Nat) (z1 : Int) : Prop := lq_A G w ∧ lq_B M w x ∧ ∃ p q, lq_N M w p q ∧ rv_G6 (M.1 s) 0 w p M ∧ ∀ k : Nat, k < 2 → (z1 ≠ (k : Int) → M.1 kc k = M.1 kr k ∧ (M.1 kc k ≠ 0 → rv_G6 (M.1 kp) (538 * k) w (lq_ip k) M)) ∧ (z1 = (k : Int) → M.1 kc k = 1 ∧ rv_G6 (M.1 s) 0 w (lq_ip k) M)
theorem lq_ip_ne {k j : Nat} (hk : k < 2) (hj : j < 2) (h : k ≠ j) : lq_ip k ≠ lq_ip j := by
  have : (k = 0 ∧ j = 1) ∨ (k = 1 ∧ j = 0) := by omega
  rcases this with ⟨rfl, rfl⟩ | ⟨rfl, rfl⟩ <;> decide
theorem lq_img1 (hI : ab_Inv G M) (gx : G x = (1011, 0)) (gs : G s = (51100, 537)) (gk : G kp = (70100, 1076)) (x4 : M.2.2 x 4 = some kc) (gkc : G kc = (48102, 2)) (gkr : G kr = (72102, 2)) (hJ : lq_J G M x s kp kc w) (hm : lq_mk M kc kr) : mj_R mj_tab 40 127 [.inr (.inr (some x)), .inl z1] G M (fun _ G' M' => G' = G ∧ lq_i G M' x s kp kc kr w z1) := by
  obtain ⟨hA, hB, p, q, hN, h1, h2⟩ := hJ
  refine r_X11_image4 hI gx hA hB hN x4 gkc (fun h0 => ⟨rfl, hA, hB, p, q, hN, h1, fun k hk => ⟨fun _ => ⟨hm k hk, h2 k hk⟩, fun e => absurd ⟨by omega, by omega⟩ h0⟩⟩) (fun k0 hk0 e0 M1 c => ?_)
  have no1 : rv_no 51100 ∧ rv_no 70100 ∧ rv_no 48102 ∧ rv_no 72102 := by
    refine ⟨?_, ?_, ?_, ?_⟩ <;> (unfold rv_no; decide)
  have ip := lq_ip_in k0
  have es : (mj_p0 M1 kc k0 1).1 s = M.1 s := (wz_c (hn_ne gs gkc (by decide))).trans (c.o hA ip gs no1.1 (by decide) (by decide) (by decide) (by decide))
  have ek : (mj_p0 M1 kc k0 1).1 kp = M.1 kp := (wz_c (hn_ne gk gkc (by decide))).trans (c.o hA ip gk no1.2.1 (by decide) (by decide) (by decide) (by decide))
  have er : (mj_p0 M1 kc k0 1).1 kr = M.1 kr := (wz_c (hn_ne gkr gkc (by decide))).trans (c.o hA ip gkr no1.2.2.2 (by decide) (by decide) (by decide) (by decide))
  have ec : ∀ k, k ≠ k0 → (mj_p0 M1 kc k0 1).1 kc k = M.1 kc k := fun k hk => (hn_n (Or.inr hk)).trans (congrFun (c.o hA ip gkc no1.2.2.1 (by decide) (by decide) (by decide) (by decide)) k)
  have E : ∀ R, R ∈ lq_Ps → R ≠ lq_ip k0 → lq_E6 w R M (mj_p0 M1 kc k0 1) := fun R hR hne => (c.E hA ip hR hne).tr (lq_E6.p0 hA hR gkc (by decide) (by decide) (by decide) (by decide))
  have B1 : lq_B M1 w x := c.B hA gx hB
  have N1 : lq_N M1 w p q := c.N hA hN
  refine ⟨rfl, hA, B1, p, q, N1, ?_, fun k hk => ⟨fun hz => ?_, fun hz => ?_⟩⟩
  · rw [es]; exact h1.cg (E p hN.pin.1 (hN.pin.2 k0)) (fun _ _ => rfl)
  · have hne : k ≠ k0 := fun e => hz (by rw [e]; exact e0)
    rw [er, ec k hne, ek]
    exact ⟨hm k hk, fun h0 => (h2 k hk h0).cg (E _ (lq_ip_in k) (lq_ip_ne hk hk0 hne)) (fun _ _ => rfl)⟩
  · have e : k = k0 := by omega
    subst e
    refine ⟨hn_s, ?_⟩
    rw [es]
    exact (h1.cp c).cg (lq_E6.p0 hA ip gkc (by decide) (by decide) (by decide) (by decide)) (fun _ _ => rfl)
theorem lq_img2 (gx : G x = (1011, 0)) (gs : G s = (51100, 537)) (gkc : G kc = (48102, 2)) (h : lq_i G M x s kp kc kr w z1) (f : ab_frm hn_WI G M M') (o : (¬ (0 ≤ z1 ∧ z1 ≤ 1) ∧ (∀ q, M'.1 kr q = M.1 kr q) ∧ M'.1 kp = M.1 kp) ∨ (∃ k : Nat, k ≤ 1 ∧ z1 = (k : Int) ∧ M'.1 kr k = 1 ∧ (∀ q, q ≠ k → M'.1 kr q = M.1 kr q) ∧ (∀ p, p < 537 → M'.1 kp (538 * k + p) = M.1 s p) ∧ (∀ q, q < 538 * k ∨ 538 * k + 538 ≤ q → M'.1 kp q = M.1 kp q))) : lq_J G M' x s kp kc w ∧ lq_mk M' kc kr := by
  obtain ⟨hA, hB, p, q, hN, h1, h2⟩ := h
  have c9 : lq_9c hn_WI := by decide
  have es : M'.1 s = M.1 s := funext fun k => (f s k (by rw [gs]; exact hn_nt (by decide))).1
  have ec : M'.1 kc = M.1 kc := funext fun k => (f kc k (by rw [gkc]; exact hn_nt (by decide))).1
  have E : ∀ R, R ∈ lq_Ps → lq_E6 w R M M' := fun R hR => lq_E6.go hA hR f c9
  have B := hB.go hA gx f c9
  have N := hN.go hA f c9
  have H1 : rv_G6 (M'.1 s) 0 w p M' := by rw [es]; exact h1.cg (E p hN.pin.1) (fun _ _ => rfl)
  rcases o with ⟨n1, n2, n3⟩ | ⟨k0, j1, j2, j3, j4, j5, j6⟩
  · refine ⟨⟨hA, B, p, q, N, H1, fun k hk h0 => ?_⟩, fun k hk => ?_⟩
    · rw [ec] at h0; rw [n3]
      exact (((h2 k hk).1 (by omega)).2 h0).cg (E _ (lq_ip_in k)) (fun _ _ => rfl)
    · rw [ec, n2]; exact ((h2 k hk).1 (by omega)).1
  · refine ⟨⟨hA, B, p, q, N, H1, fun k hk h0 => ?_⟩, fun k hk => ?_⟩
    · rw [ec] at h0
      by_cases e : k = k0
      · subst e
        exact ((h2 k hk).2 j2).2.cg (E _ (lq_ip_in k)) (fun i hi => by rw [Nat.zero_add]; exact j5 i (by omega))
      · exact (((h2 k hk).1 (by omega)).2 h0).cg (E _ (lq_ip_in k)) (fun i hi => j6 _ (by omega))
    · rw [ec]
      by_cases e : k = k0
      · subst e; rw [j3]; exact ((h2 k hk).2 j2).1
      · rw [j4 k e]; exact ((h2 k hk).1 (by omega)).1
end IR
end
section
/-! ===== restore of both sides; worth of the class ===== -/
section RW
variable {G : mj_G} {M M' : mj_M} {w : Nat → Nat} {x m s kp kc kr tp ud : Nat} {z1 : Int}
/-- between restore of the class and of the reference -/
def lq_r (G : mj_G) (M : mj_M) (x s kp kc kr : Nat) (w : Nat → Nat) (z1 : Int) : Prop := lq_A G w ∧ lq_B M w x ∧ lq_mk M kc kr ∧ ∃ p q, lq_N M w p q ∧ (∀ k, k < 2 → M.1 kc k ≠ 0 → rv_G6 (M.1 kp) (538 * k) w (lq_ip k) M) ∧ ((∀ k : Nat, k < 2 → z1 = (k : Int) → M.1 kc k = 0) → rv_G6 (M.1 s) 0 w p M) ∧ (∀ k : Nat, k < 2 → z1 = (k : Int) → M.1 kc k ≠ 0 → rv_G6 (M.1 kp) (538 * k) w p M)
theorem lq_rst1 (hI : ab_Inv G M) (gx : G x = (1011, 0)) (gs : G s = (51100, 537)) (gk : G kp = (70100, 1076)) (x4 : M.2.2 x 4 = some kc) (gkc : G kc = (48102, 2)) (gkr : G kr = (72102, 2)) (x5 : M.2.2 x 5 = some ud) (gud : G ud = (1009, 0)) (hJ : lq_J G M x s kp kc w) (hm : lq_mk M kc kr) : mj_R mj_tab 40 144 [.inr (.inr (some x)), .inl z1] G M (fun _ G' M' => G' = G ∧ lq_r G M' x s kp kc kr w z1 ∧ ((∀ k : Nat, k < 2 → z1 = (k : Int) → M.1 kc k = 0) → M'.1 ud = M.1 ud) ∧ (∀ k : Nat, k < 2 → z1 = (k : Int) → M.1 kc k ≠ 0 → M'.1 ud 3 = 0)) := by
  obtain ⟨hA, hB, p, q, hN, h1, h2⟩ := hJ
  refine r_X11_restore4 hI gx hA hB hN x4 gkc x5 gud (fun h0 => ?_) (fun k0 hk0 e0 hc0 M1 c => ?_)
  · have no : ∀ k : Nat, k < 2 → z1 = (k : Int) → M.1 kc k ≠ 0 → False := fun k hk e hc => by
      rcases h0 with h0 | ⟨j, hj, e1, e2⟩
      · exact absurd ⟨by omega, by omega⟩ h0
      · have : j = k := by omega
        subst this; exact absurd e2 hc
    exact ⟨rfl, ⟨hA, hB, hm, p, q, hN, h2, fun _ => h1, fun k hk e hc => (no k hk e hc).elim⟩, fun _ => rfl, fun k hk e hc => (no k hk e hc).elim⟩
  have no1 : rv_no 51100 ∧ rv_no 70100 ∧ rv_no 48102 ∧ rv_no 72102 := by
    refine ⟨?_, ?_, ?_, ?_⟩ <;> (unfold rv_no; decide)
  have pi := hN.pin.1
  have ek : (mj_p0 M1 ud 3 0).1 kp = M.1 kp := (wz_c (hn_ne gk gud (by decide))).trans (c.o hA pi gk no1.2.1 (by decide) (by decide) (by decide) (by decide))
  have er : (mj_p0 M1 ud 3 0).1 kr = M.1 kr := (wz_c (hn_ne gkr gud (by decide))).trans (c.o hA pi gkr no1.2.2.2 (by decide) (by decide) (by decide) (by decide))
  have ec : (mj_p0 M1 ud 3 0).1 kc = M.1 kc := (wz_c (hn_ne gkc gud (by decide))).trans (c.o hA pi gkc no1.2.2.1 (by decide) (by decide) (by decide) (by decide))
  have B1 : lq_B M1 w x := c.B hA gx hB
  have N1 : lq_N M1 w p q := c.N hA hN
  refine ⟨rfl, ⟨hA, B1, fun k hk => by rw [ec, er]; exact hm k hk, p, q, N1, fun k hk h0 => ?_, fun h => ?_, fun k hk e _ => ?_⟩, fun h => absurd (h k0 hk0 e0) hc0, fun _ _ _ _ => hn_s⟩
  · rw [ec] at h0; rw [ek]
    exact (h2 k hk h0).cg ((c.E hA pi (lq_ip_in k) (fun e => hN.pin.2 k e.symm)).tr (lq_E6.p0 hA (lq_ip_in k) gud (by decide) (by decide) (by decide) (by decide))) (fun _ _ => rfl)
  · have := h k0 hk0 e0
    rw [ec] at this
    exact absurd this hc0
  · have : k = k0 := by omega
    subst this
    rw [ek]
    exact ((h2 k hk hc0).cp c).cg (lq_E6.p0 hA pi gud (by decide) (by decide) (by decide) (by decide)) (fun _ _ => rfl)
theorem lq_rst2 (gx : G x = (1011, 0)) (gk : G kp = (70100, 1076)) (gkc : G kc = (48102, 2)) (gkr : G kr = (72102, 2)) (h : lq_r G M x s kp kc kr w z1) (f : ab_frm hn_WR G M M') (o : ((¬ (0 ≤ z1 ∧ z1 ≤ 1) ∨ M.1 kr z1.toNat = 0) ∧ M'.1 s = M.1 s) ∨ (∃ k : Nat, k ≤ 1 ∧ z1 = (k : Int) ∧ M.1 kr k ≠ 0 ∧ (∀ p, p < 537 → M'.1 s p = M.1 kp (538 * k + p)))) : lq_J G M' x s kp kc w ∧ lq_mk M' kc kr := by
  obtain ⟨hA, hB, hm, p, q, hN, h2, h3, h4⟩ := h
  have c9 : lq_9c hn_WR := by decide
  have ek : M'.1 kp = M.1 kp := funext fun k => (f kp k (by rw [gk]; exact hn_nt (by decide))).1
  have ec : M'.1 kc = M.1 kc := funext fun k => (f kc k (by rw [gkc]; exact hn_nt (by decide))).1
  have er : M'.1 kr = M.1 kr := funext fun k => (f kr k (by rw [gkr]; exact hn_nt (by decide))).1
  have E : ∀ R, R ∈ lq_Ps → lq_E6 w R M M' := fun R hR => lq_E6.go hA hR f c9
  have B := hB.go hA gx f c9
  have N := hN.go hA f c9
  refine ⟨⟨hA, B, p, q, N, ?_, fun k hk h0 => ?_⟩, fun k hk => by rw [ec, er]; exact hm k hk⟩
  · rcases o with ⟨n1, n2⟩ | ⟨k0, j1, j2, j3, j4⟩
    · rw [n2]
      refine (h3 (fun k hk e => ?_)).cg (E p hN.pin.1) (fun _ _ => rfl)
      rcases n1 with n1 | n1
      · exact absurd ⟨by omega, by omega⟩ n1
      · rw [hm k hk]; rw [e] at n1; exact n1
    · exact (h4 k0 (by omega) j2 (by rw [hm k0 (by omega)]; exact j3)).cg (E p hN.pin.1) (fun i hi => by rw [Nat.zero_add]; exact j4 i (by omega))
  · rw [ec] at h0; rw [ek]
    exact (h2 k hk h0).cg (E _ (lq_ip_in k)) (fun _ _ => rfl)
end RW
end
section
/-! ===== worth of the class, as the invariant sees it ===== -/
section WQ
variable {G : mj_G} {M M' : mj_M} {w : Nat → Nat} {x s kp kc p q R : Nat} {z1 : Int}
theorem lq_u.E6 (hA : lq_A G w) (hq : q ∈ lq_Ps) (hR : R ∈ lq_Ps) (hne : R ≠ q) (u : lq_u G w q M M') : lq_E6 w R M M' := by
  obtain ⟨g1, g2, g3, g4, g5, g6, g7⟩ := hA.2.1 R hR
  have h4 := lq_P4 hq
  have h5 := lq_P4 hR
  have key : ∀ v, R ≤ v → v < R + 22 → rv_no (G (w v)).1 → M'.1 (w v) = M.1 (w v) := by
    intro v h1 h2 hn
    refine u.2 _ hn (fun j hj e => ?_)
    have := hA.1 _ _ (by omega) (by omega) e
    omega
  have k0 : M'.1 (w R) = M.1 (w R) := key R (by omega) (by omega) (by rw [g1]; unfold rv_no; decide)
  refine ⟨⟨⟨by rw [k0], by rw [k0], by rw [k0], by rw [k0]⟩, fun t v ht hv => ?_, fun v hv => ?_⟩, by rw [k0], fun t v ht hv => ?_⟩
  · rw [key (R + 3 + t) (by omega) (by omega) (by rw [g6 t ht]; unfold rv_no; decide)]
  · rw [key (R + 20) (by omega) (by omega) (by rw [g5]; unfold rv_no; decide)]
  · rw [key (R + 12 + t) (by omega) (by omega) (by rw [g7 t ht]; unfold rv_no; decide)]
theorem lq_wor (hI : ab_Inv G M) (gx : G x = (1011, 0)) (hJ : lq_J G M x s kp kc w) : mj_R mj_tab 40 157 [.inr (.inr (some x)), .inl z1] G M (fun _ G' M' => G' = G ∧ (M'.1 s = M.1 s → M'.1 kp = M.1 kp → M'.1 kc = M.1 kc → lq_J G M' x s kp kc w)) := by
  obtain ⟨hA, hB, p, q, hN, h1, h2⟩ := hJ
  refine r_X11_worth4 hI gx hA hB hN (fun z M' u => ⟨rfl, fun es ek ec => ?_⟩)
  have hq := hN.qin
  have nq : ∀ k, lq_ip k ≠ q := fun k => by
    rcases hN.2.2 with ⟨-, rfl⟩ | ⟨-, rfl⟩ <;> (unfold lq_ip; split <;> decide)
  refine ⟨hA, hB.no hA gx u.1, p, q, ⟨(u.1 _ _ (lq_no29 hA).1).trans hN.1, (u.1 _ _ (lq_no29 hA).2).trans hN.2.1, hN.2.2⟩, ?_, fun k hk h0 => ?_⟩
  · rw [es]; exact h1.cg (u.E6 hA hq.1 hN.pin.1 hq.2) (fun _ _ => rfl)
  · rw [ec] at h0; rw [ek]
    exact (h2 k hk h0).cg (u.E6 hA hq.1 (lq_ip_in k) (nq k)) (fun _ _ => rfl)
end WQ
end
section
/-! ===== plain of both sides, as the invariant sees it ===== -/
/-- an outcome of plain, as the bytes ask for it -/
def rv_z4 (f : Nat → Int) (n : Nat) (y : rv_Om) : Prop := ∃ PL WA OA TO BI NA, rv_0 PL WA OA TO BI NA ∧ ∀ P : rv_Om → Prop, P y → sp_rows (rv_T (fun k => rv_u8 (f k)) n 900) (fun f a => P (.inl (f, a))) (fun PL WA OA TO BI nm r => P (.inr (PL, WA, OA, TO, BI, nm, r))) (n + 1) PL WA OA TO BI (fun _ => []) 0 0
def rv_va (y : rv_Om) : Int := Sum.elim (fun e => rv_vf e.2) (fun e => ((e.2.2.2.2.2.2 : Nat) : Int)) y
theorem rv_va_l (e : Int × Nat) : rv_va (.inl e) = rv_vf e.2 := by unfold rv_va; rw [Sum.elim_inl]
theorem rv_va_r (e : (Nat → Int) × (Nat → Int) × (Nat → Int) × (Nat → Nat → Int) × (Nat → Nat → Int) × (Nat → List Int) × Nat) : rv_va (.inr e) = ((e.2.2.2.2.2.2 : Nat) : Int) := by unfold rv_va; rw [Sum.elim_inr]
section PQ
variable {G : mj_G} {M M' : mj_M} {w : Nat → Nat} {x m s kp kc tp bc bt p q n R ud : Nat}
/-- the PLAIN of cell p, as told -/
def lq_pv (w : Nat → Nat) (p : Nat) (PL WA : Nat → Int) (TO BI : Nat → Nat → Int) (M : mj_M) : Prop := rv_ps PL WA TO BI ∧ (∀ k, k ≠ 9 → M.1 (w p) k = PL k) ∧ M.1 (w (p + 20)) = WA ∧ (∀ t, t < 8 → M.1 (w (p + 3 + t)) = TO t) ∧ (∀ t, t < 8 → M.1 (w (p + 12 + t)) = BI t)
/-- between plain of the class and of the reference -/
def lq_p (G : mj_G) (M : mj_M) (x s kp kc : Nat) (w : Nat → Nat) (y : rv_Om) : Prop := lq_A G w ∧ lq_B M w x ∧ ∃ p q, lq_N M w p q ∧ (∀ k, k < 2 → M.1 kc k ≠ 0 → rv_G6 (M.1 kp) (538 * k) w (lq_ip k) M) ∧ (∀ e, y = .inl e → rv_G6 (M.1 s) 0 w p M) ∧ (∀ PL WA OA TO BI nm r, y = .inr (PL, WA, OA, TO, BI, nm, r) → lq_pv w p PL WA TO BI M)
theorem lq_B.rt (hB : lq_B M w x) (hA : lq_A G w) (gx : G x = (1011, 0)) (gt : G tp = (1008, 0)) (e : ∀ a j, a ≠ tp → a ≠ w 29 → a ≠ w 74 → M'.2.2 a j = M.2.2 a j) : lq_B M' w x := by
  obtain ⟨b1, b2, b3, b4, b5, b6, b7, b8⟩ := hB
  obtain ⟨ai, a2, a3, a4, a5, a6, a7⟩ := hA
  have ne : ∀ {a t n : Nat}, G a = (t, n) → t ≠ 1008 → t ≠ 1007 → ∀ j, M'.2.2 a j = M.2.2 a j := fun ga h1 h2 j => e _ j (hn_ne ga gt h1) (hn_ne ga a3 h2) (hn_ne ga a4 h2)
  refine ⟨fun P hP => ?_, (ne gx (by decide) (by decide) 1).trans b2, (ne gx (by decide) (by decide) 2).trans b3, (ne gx (by decide) (by decide) 3).trans b4, (ne a7 (by decide) (by decide) 0).trans b5, (ne a7 (by decide) (by decide) 1).trans b6, (e _ 0 (hn_ne a5 gt (by decide)) (fun h => absurd (ai _ _ (by decide) (by decide) h) (by decide)) (fun h => absurd (ai _ _ (by decide) (by decide) h) (by decide))).trans b7, (e _ 0 (hn_ne a6 gt (by decide)) (fun h => absurd (ai _ _ (by decide) (by decide) h) (by decide)) (fun h => absurd (ai _ _ (by decide) (by decide) h) (by decide))).trans b8⟩
  obtain ⟨g1, g2, g3, g4, g5, g6, g7⟩ := a2 P hP
  obtain ⟨c1, c2, c3, c4, c5, c6⟩ := b1 P hP
  exact ⟨(ne g1 (by decide) (by decide) 0).trans c1, (ne g1 (by decide) (by decide) 1).trans c2, (ne g1 (by decide) (by decide) 2).trans c3, (ne g1 (by decide) (by decide) 3).trans c4, fun t ht => (ne g3 (by decide) (by decide) t).trans (c5 t ht), fun t ht => (ne g4 (by decide) (by decide) t).trans (c6 t ht)⟩
theorem lq_kE (hA : lq_A G w) (hq : q ∈ lq_Ps) (hR : R ∈ lq_Ps) (hne : R ≠ q) (u : ∀ a, (G a).1 = 1004 ∨ (G a).1 = 26100 ∨ (G a).1 = 29100 ∨ (G a).1 = 28100 → (∀ j, j < 22 → a ≠ w (q + j)) → M'.1 a = M.1 a) : lq_E6 w R M M' := by
  obtain ⟨g1, g2, g3, g4, g5, g6, g7⟩ := hA.2.1 R hR
  have h4 := lq_P4 hq
  have h5 := lq_P4 hR
  have key : ∀ v, R ≤ v → v < R + 22 → ((G (w v)).1 = 1004 ∨ (G (w v)).1 = 26100 ∨ (G (w v)).1 = 29100 ∨ (G (w v)).1 = 28100) → M'.1 (w v) = M.1 (w v) := by
    intro v h1 h2 hn
    refine u _ hn (fun j hj e => ?_)
    have := hA.1 _ _ (by omega) (by omega) e
    omega
  have k0 : M'.1 (w R) = M.1 (w R) := key R (by omega) (by omega) (Or.inl (by rw [g1]))
  refine ⟨⟨⟨by rw [k0], by rw [k0], by rw [k0], by rw [k0]⟩, fun t v ht hv => ?_, fun v hv => ?_⟩, by rw [k0], fun t v ht hv => ?_⟩
  · rw [key (R + 3 + t) (by omega) (by omega) (Or.inr (Or.inl (by rw [g6 t ht])))]
  · rw [key (R + 20) (by omega) (by omega) (Or.inr (Or.inr (Or.inl (by rw [g5]))))]
  · rw [key (R + 12 + t) (by omega) (by omega) (Or.inr (Or.inr (Or.inr (by rw [g7 t ht]))))]
theorem lq_N.nip (hN : lq_N M w p q) : ∀ k, lq_ip k ≠ q := fun k => by
  rcases hN.2.2 with ⟨-, rfl⟩ | ⟨-, rfl⟩ <;> (unfold lq_ip; split <;> decide)
set_option maxRecDepth 100000 in
theorem lq_pl1 (inv : ab_Inv G M) (gx : G x = (1011, 0)) (gtp : G tp = (1008, 0)) (gs : G s = (51100, 537)) (gk : G kp = (70100, 1076)) (gkc : G kc = (48102, 2)) (x0 : M.2.2 x 0 = some tp) (x5 : M.2.2 x 5 = some ud) (gud : G ud = (1009, 0)) (h6 : lp_6 G M tp m bc bt) (hJ : lq_J G M x s kp kc w) (hn : n ≤ 940) (hs : M.1 tp 1 = (n : Int)) : mj_R mj_tab 40 138 [.inr (.inr (some x))] G M (fun r G' M' => ∃ y, rv_z4 (M.1 bc) n y ∧ r = some (.inl (rv_va y)) ∧ G' = G ∧ lq_p G M' x s kp kc w y ∧ (∀ e, y = .inl e → M'.1 ud = M.1 ud) ∧ (∀ e, y = .inr e → M'.1 ud 3 = 0)) := by
  obtain ⟨gbc, gbt, t0, m1, wl, l5⟩ := h6
  obtain ⟨hA, hB, p, q, hN, h1, h2⟩ := hJ
  obtain ⟨hq, hpq⟩ := hN.qin
  have hp := hN.pin.1
  have g29 := hA.2.2.1
  have g74 := hA.2.2.2.1
  obtain ⟨gpl, gna, gta, gba, gwa, gtr, gbr, itr, ibr, p0, p1, p2, p3, rt, rb⟩ := lq_K hA hB hq
  obtain ⟨gpn, -⟩ := hA.2.1 p hp
  obtain ⟨dl, w1, gdl⟩ := hn_rf (k := 1) (q := (1002, 0)) inv g29 rfl (by decide) (by decide) (by decide) (fun e => absurd e (by decide))
  obtain ⟨se, w2, gse⟩ := hn_rf (k := 2) (q := (1006, 0)) inv g29 rfl (by decide) (by decide) (by decide) (fun e => absurd e (by decide))
  obtain ⟨ye, w3, gye⟩ := hn_rf (k := 3) (q := (1010, 0)) inv g29 rfl (by decide) (by decide) (by decide) (fun e => absurd e (by decide))
  obtain ⟨fa, d0, gfa⟩ := hn_rf (k := 0) (q := (16100, 12)) inv gdl rfl (by decide) (by decide) (by decide) (fun e => absurd e (by decide))
  obtain ⟨sa, d1, gsa⟩ := hn_rf (k := 1) (q := (17100, 12)) inv gdl rfl (by decide) (by decide) (by decide) (fun e => absurd e (by decide))
  obtain ⟨ca, d2, gca⟩ := hn_rf (k := 2) (q := (18100, 12)) inv gdl rfl (by decide) (by decide) (by decide) (fun e => absurd e (by decide))
  obtain ⟨oa, p10, goa⟩ := hn_rf (k := 10) (q := (30100, 8)) inv gpl rfl (by decide) (by decide) (by decide) (fun e => absurd e (by decide))
  have hAT : rv_AT G M (fun k => rv_u8 (M.1 bc k)) n 900 tp bc (w q) (w (q + 1)) (w (q + 2)) (w (q + 11)) (w (q + 20)) oa (fun t => w (q + 3 + t)) (fun t => w (q + 12 + t)) (rv_T (fun k => rv_u8 (M.1 bc k)) n 900) :=
    ⟨⟨gtp, gbc, gpl, gna, gta, gba, gwa, goa, gtr, gbr, itr, ibr, t0, p0, p1, p2, p3, p10, rt, rb, fun _ => rfl, wl, hn, by decide, inv.2.2.2.1⟩, rfl⟩
  have hX : rv_X G M x tp (w q) (w 74) (w 29) (w p) dl fa sa ca se ye ud := ⟨⟨gx, g74, g29, gse, gye, gud, gdl, gfa, gsa, gca, d0, d1, d2⟩, x0, hB.2.1, hB.2.2.1, x5, hN.2.1, hN.1, w1, w2, w3⟩
  have h4 := lq_P4 hq
  refine r_X11_plain4 (d := 32) hAT hX hs (fun PL WA OA TO BI NA h0 => ?_)
  obtain ⟨y, hrg, hy⟩ := dr_rows (T := rv_T (fun k => rv_u8 (M.1 bc k)) n 900) (n + 1) PL WA OA TO BI (fun _ => []) 0 0 h0.ps
  have hz : rv_z4 (M.1 bc) n y := ⟨PL, WA, OA, TO, BI, NA, h0, hy⟩
  have key0 : (∀ f a, y = .inl (f, a) → ∀ M', rv_PF x tp (w q) (w (q + 1)) (w (q + 20)) oa (fun t => w (q + 3 + t)) (fun t => w (q + 12 + t)) M M' → ∃ y, rv_z4 (M.1 bc) n y ∧ (some (.inl (rv_vf a)) : Option mj_V) = some (.inl (rv_va y)) ∧ G = G ∧ lq_p G M' x s kp kc w y ∧ (∀ e, y = .inl e → M'.1 ud = M.1 ud) ∧ (∀ e, y = .inr e → M'.1 ud 3 = 0)) ∧ (∀ PL WA OA TO BI nm r, y = .inr (PL, WA, OA, TO, BI, nm, r) → rv_pb PL → ∀ M', rv_PO x tp (w q) (w (q + 1)) (w (q + 20)) oa (w 74) (w 29) (w p) dl fa sa ca se ye ud (fun t => w (q + 3 + t)) (fun t => w (q + 12 + t)) PL WA OA TO BI nm M M' → rv_P2 dl fa sa ca se ye ud M' → ∃ y, rv_z4 (M.1 bc) n y ∧ (some (.inl ((r : Nat) : Int)) : Option mj_V) = some (.inl (rv_va y)) ∧ G = G ∧ lq_p G M' x s kp kc w y ∧ (∀ e, y = .inl e → M'.1 ud = M.1 ud) ∧ (∀ e, y = .inr e → M'.1 ud 3 = 0)) := by
    refine ⟨fun f a ey => ?_, fun PL' WA' OA' TO' BI' nm' r' ey => ?_⟩
    all_goals subst ey
    · intro M' ⟨f2, fl, f1⟩
      have key : ∀ {a t u : Nat}, G a = (t, u) → t ≠ 1011 → t ≠ 1008 → t ≠ 30100 → (∀ j, j < 22 → a ≠ w (q + j)) → M'.1 a = M.1 a := fun ga n1 n2 n3 hj => f1 _ (hn_ne ga gx n1) (hn_ne ga gtp n2) (hj 0 (by decide)) (hj 20 (by decide)) (hn_ne ga goa n3) (fun t ht => by have := hj (3 + t) (by omega); rw [← Nat.add_assoc] at this; exact this) (fun t ht => by have := hj (12 + t) (by omega); rw [← Nat.add_assoc] at this; exact this)
      have tg : ∀ {a t u : Nat}, G a = (t, u) → t ≠ 1004 → t ≠ 24103 → t ≠ 25104 → t ≠ 26100 → t ≠ 27104 → t ≠ 28100 → t ≠ 29100 → t ≠ 30100 → t ≠ 1011 → t ≠ 1008 → M'.1 a = M.1 a := fun ga n1 n2 n3 n4 n5 n6 n7 n8 n9 n10 => f1 _ (hn_ne ga gx n9) (hn_ne ga gtp n10) (hn_ne ga gpl n1) (hn_ne ga gwa n7) (hn_ne ga goa n8) (fun t ht => hn_ne ga (gtr t ht) n4) (fun t ht => hn_ne ga (gbr t ht) n6)
      have es : M'.1 s = M.1 s := tg gs (by decide) (by decide) (by decide) (by decide) (by decide) (by decide) (by decide) (by decide) (by decide) (by decide)
      have ek : M'.1 kp = M.1 kp := tg gk (by decide) (by decide) (by decide) (by decide) (by decide) (by decide) (by decide) (by decide) (by decide) (by decide)
      have ec : M'.1 kc = M.1 kc := tg gkc (by decide) (by decide) (by decide) (by decide) (by decide) (by decide) (by decide) (by decide) (by decide) (by decide)
      have E : ∀ R, R ∈ lq_Ps → R ≠ q → lq_E6 w R M M' := fun R hR hne => lq_kE hA hq hR hne (fun a ha hj => by
        rcases ha with ha | ha | ha | ha
        · exact key (u := (G a).2) (Prod.ext ha rfl) (by decide) (by decide) (by decide) hj
        · exact key (u := (G a).2) (Prod.ext ha rfl) (by decide) (by decide) (by decide) hj
        · exact key (u := (G a).2) (Prod.ext ha rfl) (by decide) (by decide) (by decide) hj
        · exact key (u := (G a).2) (Prod.ext ha rfl) (by decide) (by decide) (by decide) hj)
      have rf : ∀ a j, a ≠ tp → M'.2.2 a j = M.2.2 a j := fun a j ha => f2 a j (fun e => ha e.1)
      refine ⟨.inl (f, a), hz, (by rw [rv_va_l]), rfl, ⟨hA, hB.rt hA gx gtp (fun a j h _ _ => rf a j h), p, q, ⟨(rf _ _ (hn_ne g29 gtp (by decide))).trans hN.1, (rf _ _ (hn_ne g74 gtp (by decide))).trans hN.2.1, hN.2.2⟩, fun k hk hc => ?_, fun _ _ => ?_, fun _ _ _ _ _ _ _ e => by cases e⟩, fun _ _ => tg gud (by decide) (by decide) (by decide) (by decide) (by decide) (by decide) (by decide) (by decide) (by decide) (by decide), fun _ e => by cases e⟩
      · rw [ec] at hc; rw [ek]
        exact (h2 k hk hc).cg (E _ (lq_ip_in k) (hN.nip k)) (fun _ _ => rfl)
      · rw [es]; exact h1.cg (E p hp hpq) (fun _ _ => rfl)
    · intro hb M' ⟨o1, o2, o3, o4, o5, o6, o7, o8, o9, fo⟩ hP2
      have tg : ∀ {a t u : Nat}, G a = (t, u) → t ≠ 1011 → t ≠ 1008 → t ≠ 30100 → t ≠ 1002 → t ≠ 16100 → t ≠ 17100 → t ≠ 18100 → t ≠ 1006 → t ≠ 1010 → t ≠ 1009 → (∀ j, j < 22 → a ≠ w (q + j)) → M'.1 a = M.1 a := fun ga n1 n2 n3 n4 n5 n6 n7 n8 n9 n10 hj => fo _ (hn_ne ga gx n1) (hn_ne ga gtp n2) (hj 0 (by decide)) (hj 20 (by decide)) (hn_ne ga goa n3) (fun t ht => by have := hj (3 + t) (by omega); rw [← Nat.add_assoc] at this; exact this) (fun t ht => by have := hj (12 + t) (by omega); rw [← Nat.add_assoc] at this; exact this) (hn_ne ga gdl n4) (hn_ne ga gfa n5) (hn_ne ga gsa n6) (hn_ne ga gca n7) (hn_ne ga gse n8) (hn_ne ga gye n9) (hn_ne ga gud n10)
      have ek : M'.1 kp = M.1 kp := fo _ (hn_ne gk gx (by decide)) (hn_ne gk gtp (by decide)) (hn_ne gk gpl (by decide)) (hn_ne gk gwa (by decide)) (hn_ne gk goa (by decide)) (fun t ht => hn_ne gk (gtr t ht) (by decide)) (fun t ht => hn_ne gk (gbr t ht) (by decide)) (hn_ne gk gdl (by decide)) (hn_ne gk gfa (by decide)) (hn_ne gk gsa (by decide)) (hn_ne gk gca (by decide)) (hn_ne gk gse (by decide)) (hn_ne gk gye (by decide)) (hn_ne gk gud (by decide))
      have ec : M'.1 kc = M.1 kc := fo _ (hn_ne gkc gx (by decide)) (hn_ne gkc gtp (by decide)) (hn_ne gkc gpl (by decide)) (hn_ne gkc gwa (by decide)) (hn_ne gkc goa (by decide)) (fun t ht => hn_ne gkc (gtr t ht) (by decide)) (fun t ht => hn_ne gkc (gbr t ht) (by decide)) (hn_ne gkc gdl (by decide)) (hn_ne gkc gfa (by decide)) (hn_ne gkc gsa (by decide)) (hn_ne gkc gca (by decide)) (hn_ne gkc gse (by decide)) (hn_ne gkc gye (by decide)) (hn_ne gkc gud (by decide))
      have E : ∀ R, R ∈ lq_Ps → R ≠ q → lq_E6 w R M M' := fun R hR hne => lq_kE hA hq hR hne (fun a ha hj => by
        rcases ha with ha | ha | ha | ha
        · exact tg (u := (G a).2) (Prod.ext ha rfl) (by decide) (by decide) (by decide) (by decide) (by decide) (by decide) (by decide) (by decide) (by decide) (by decide) hj
        · exact tg (u := (G a).2) (Prod.ext ha rfl) (by decide) (by decide) (by decide) (by decide) (by decide) (by decide) (by decide) (by decide) (by decide) (by decide) hj
        · exact tg (u := (G a).2) (Prod.ext ha rfl) (by decide) (by decide) (by decide) (by decide) (by decide) (by decide) (by decide) (by decide) (by decide) (by decide) hj
        · exact tg (u := (G a).2) (Prod.ext ha rfl) (by decide) (by decide) (by decide) (by decide) (by decide) (by decide) (by decide) (by decide) (by decide) (by decide) hj)
      have ne2 : w 74 ≠ w 29 := fun e => absurd (hA.1 _ _ (by decide) (by decide) e) (by decide)
      refine ⟨.inr (PL', WA', OA', TO', BI', nm', r'), hz, (by rw [rv_va_r]), rfl, ⟨hA, hB.rt hA gx gtp (fun a j ha hb hc => o8 a j (fun e => ha e.1) (fun e => hb e.1) (fun e => hc e.1)), q, p, ⟨o6, o7 ne2, hN.2.2.elim (fun h => Or.inr ⟨h.2, h.1⟩) (fun h => Or.inl ⟨h.2, h.1⟩)⟩, fun k hk hc => ?_, fun _ e => (by cases e), fun PL2 WA2 OA2 TO2 BI2 nm2 r2 e => ?_⟩, fun _ e => (by cases e), fun _ _ => hP2.1⟩
      · rw [ec] at hc; rw [ek]
        exact (h2 k hk hc).cg (E _ (lq_ip_in k) (hN.nip k)) (fun _ _ => rfl)
      · cases e
        exact ⟨hrg _ _ _ _ _ _ _ rfl, o1, o2, o3, o4⟩
  exact sp_rows.mono (fun f a h => h.1 f a rfl) (fun PL WA OA TO BI nm r h => h.2 PL WA OA TO BI nm r rfl) _ _ _ _ _ _ _ _ _ (hy (fun o => (∀ f a, o = .inl (f, a) → ∀ M', rv_PF x tp (w q) (w (q + 1)) (w (q + 20)) oa (fun t => w (q + 3 + t)) (fun t => w (q + 12 + t)) M M' → ∃ y, rv_z4 (M.1 bc) n y ∧ (some (.inl (rv_vf a)) : Option mj_V) = some (.inl (rv_va y)) ∧ G = G ∧ lq_p G M' x s kp kc w y ∧ (∀ e, y = .inl e → M'.1 ud = M.1 ud) ∧ (∀ e, y = .inr e → M'.1 ud 3 = 0)) ∧ (∀ PL WA OA TO BI nm r, o = .inr (PL, WA, OA, TO, BI, nm, r) → rv_pb PL → ∀ M', rv_PO x tp (w q) (w (q + 1)) (w (q + 20)) oa (w 74) (w 29) (w p) dl fa sa ca se ye ud (fun t => w (q + 3 + t)) (fun t => w (q + 12 + t)) PL WA OA TO BI nm M M' → rv_P2 dl fa sa ca se ye ud M' → ∃ y, rv_z4 (M.1 bc) n y ∧ (some (.inl ((r : Nat) : Int)) : Option mj_V) = some (.inl (rv_va y)) ∧ G = G ∧ lq_p G M' x s kp kc w y ∧ (∀ e, y = .inl e → M'.1 ud = M.1 ud) ∧ (∀ e, y = .inr e → M'.1 ud 3 = 0))) key0)
theorem lq_pl2 {f : Nat → Int} {y : rv_Om} (hV : lw_V G M x m tp s kp) (gbt : G bt = (50101, 940)) (m1 : M.2.2 m 1 = some bt) (hf : M.1 bt = f) (hn : n ≤ 940) (hs : M.1 m 2 = (n : Int)) (hz : rv_z4 f n y) : mj_R mj_tab 40 226 [.inr (.inr (some m))] G M (fun r _ M' => r = some (.inl (rv_va y)) ∧ (∀ e, y = .inl e → M'.1 s = M.1 s ∧ M'.1 m 28 = M.1 m 28) ∧ (∀ PL WA OA TO BI nm r, y = .inr (PL, WA, OA, TO, BI, nm, r) → ∃ ns, M.2.2 m 9 = some ns ∧ rv_QO s ns PL WA TO BI nm M' ∧ M'.1 m 28 = 0)) := by
  obtain ⟨inv, ⟨gx, gm, gtp, gs, -⟩, ⟨x0, m6, -⟩, -⟩ := hV
  obtain ⟨ha, h7, gha⟩ := hn_rf (k := 7) (q := (52100, 221)) inv gm rfl (by decide) (by decide) (by decide) (fun e => absurd e (by decide))
  obtain ⟨hd, h23, ghd⟩ := hn_rf (k := 23) (q := (56100, 4)) inv gm rfl (by decide) (by decide) (by decide) (fun e => absurd e (by decide))
  obtain ⟨ns, h9, gns⟩ := hn_rf (k := 9) (q := (54103, 16)) inv gm rfl (by decide) (by decide) (by decide) (fun e => absurd e (by decide))
  obtain ⟨rs, h10, grs⟩ := hn_rf (k := 10) (q := (55103, 24)) inv gm rfl (by decide) (by decide) (by decide) (fun e => absurd e (by decide))
  obtain ⟨PL, WA, OA, TO, BI, NA, h0, hy⟩ := hz
  have hB : rv_BT G M (fun k => rv_u8 (f k)) n 900 m bt ha hd ns rs s (rv_T (fun k => rv_u8 (f k)) n 900) := ⟨⟨gm, gbt, gha, ghd, gns, grs, m1, h7, h23, h9, h10, fun k => by rw [hf], fun k hk => (inv.2.2.2.2 rs k (by rw [grs]) hk).trans (ab_rsv8 k hk), hn, by decide, gs, m6⟩, rfl⟩
  have key0 : (∀ f a, y = .inl (f, a) → ∀ M', rv_sw M s m ha M' → (some (.inl (rv_vf a)) : Option mj_V) = some (.inl (rv_va y)) ∧ (∀ e, y = .inl e → M'.1 s = M.1 s ∧ M'.1 m 28 = M.1 m 28) ∧ (∀ PL WA OA TO BI nm r, y = .inr (PL, WA, OA, TO, BI, nm, r) → ∃ ns, M.2.2 m 9 = some ns ∧ rv_QO s ns PL WA TO BI nm M' ∧ M'.1 m 28 = 0)) ∧ (∀ PL WA OA TO BI nm r, y = .inr (PL, WA, OA, TO, BI, nm, r) → ∀ M', rv_QO s ns PL WA TO BI nm M' → M'.1 m 28 = 0 → (some (.inl ((r : Nat) : Int)) : Option mj_V) = some (.inl (rv_va y)) ∧ (∀ e, y = .inl e → M'.1 s = M.1 s ∧ M'.1 m 28 = M.1 m 28) ∧ (∀ PL WA OA TO BI nm r, y = .inr (PL, WA, OA, TO, BI, nm, r) → ∃ ns, M.2.2 m 9 = some ns ∧ rv_QO s ns PL WA TO BI nm M' ∧ M'.1 m 28 = 0)) := by
    refine ⟨fun f a ey M' es => ?_, fun PL' WA' OA' TO' BI' nm' r' ey M' hQ h28 => ?_⟩
    · subst ey
      refine ⟨by rw [rv_va_l], fun _ _ => ⟨es.1, es.2.1 28 (by decide)⟩, fun _ _ _ _ _ _ _ e => ?_⟩
      cases e
    · subst ey
      refine ⟨by rw [rv_va_r], fun _ e => ?_, fun PL2 WA2 OA2 TO2 BI2 nm2 r2 e => ?_⟩
      · cases e
      · cases e
        exact ⟨ns, h9, hQ, h28⟩
  refine r_X12_plain2 (d := 33) hB hs h0 ?_
  exact sp_rows.mono (fun f a h => h.1 f a rfl) (fun PL WA OA TO BI nm r h => h.2 PL WA OA TO BI nm r rfl) _ _ _ _ _ _ _ _ _ (hy (fun o => (∀ f a, o = .inl (f, a) → ∀ M', rv_sw M s m ha M' → (some (.inl (rv_vf a)) : Option mj_V) = some (.inl (rv_va y)) ∧ (∀ e, y = .inl e → M'.1 s = M.1 s ∧ M'.1 m 28 = M.1 m 28) ∧ (∀ PL WA OA TO BI nm r, y = .inr (PL, WA, OA, TO, BI, nm, r) → ∃ ns, M.2.2 m 9 = some ns ∧ rv_QO s ns PL WA TO BI nm M' ∧ M'.1 m 28 = 0)) ∧ (∀ PL WA OA TO BI nm r, o = .inr (PL, WA, OA, TO, BI, nm, r) → ∀ M', rv_QO s ns PL WA TO BI nm M' → M'.1 m 28 = 0 → (some (.inl ((r : Nat) : Int)) : Option mj_V) = some (.inl (rv_va y)) ∧ (∀ e, y = .inl e → M'.1 s = M.1 s ∧ M'.1 m 28 = M.1 m 28) ∧ (∀ PL WA OA TO BI nm r, y = .inr (PL, WA, OA, TO, BI, nm, r) → ∃ ns, M.2.2 m 9 = some ns ∧ rv_QO s ns PL WA TO BI nm M' ∧ M'.1 m 28 = 0))) key0)
theorem lq_pl3 {y : rv_Om} {W : List (Nat × Nat × Nat)} (gx : G x = (1011, 0)) (gk : G kp = (70100, 1076)) (gkc : G kc = (48102, 2)) (h : lq_p G M x s kp kc w y) (f : ab_frm W G M M') (c9 : lq_9c W) (c8 : ∀ q ∈ W, q.1 ≠ 48102 ∧ q.1 ≠ 70100) (o1 : ∀ e, y = .inl e → M'.1 s = M.1 s) (o2 : ∀ PL WA OA TO BI nm r, y = .inr (PL, WA, OA, TO, BI, nm, r) → ∃ ns, rv_QO s ns PL WA TO BI nm M') : lq_J G M' x s kp kc w := by
  obtain ⟨hA, hB, p, q, hN, h2, h1, h3⟩ := h
  have ek : M'.1 kp = M.1 kp := funext fun k => (f _ k (by
    rw [gk]; rintro ⟨r, hr, e1, e2, e3⟩; exact (c8 r hr).2 e1)).1
  have ec : M'.1 kc = M.1 kc := funext fun k => (f _ k (by
    rw [gkc]; rintro ⟨r, hr, e1, e2, e3⟩; exact (c8 r hr).1 e1)).1
  have E : ∀ R, R ∈ lq_Ps → lq_E6 w R M M' := fun R hR => lq_E6.go hA hR f c9
  refine ⟨hA, hB.go hA gx f c9, p, q, hN.go hA f c9, ?_, fun k hk h0 => ?_⟩
  · rcases y with e | ⟨PL', WA', OA', TO', BI', nm', r'⟩
    · rw [o1 e rfl]
      exact (h1 e rfl).cg (E p hN.pin.1) (fun _ _ => rfl)
    · obtain ⟨ns, ⟨q1, q2, q3, q4, q5, q6, q7⟩, -⟩ := o2 _ _ _ _ _ _ _ rfl
      obtain ⟨v0, v1, v2, v3, v4⟩ := h3 _ _ _ _ _ _ _ rfl
      obtain ⟨⟨⟨e1, e2, e3, e4⟩, e5, e6⟩, e7, e8⟩ := E p hN.pin.1
      have hb : ∀ t v, t < 8 → v < 12 → M'.1 s (0 + (88 + 12 * t + v)) = M'.1 (w (p + 12 + t)) v := fun t v ht hv => by
        rw [Nat.zero_add, e8 t v ht hv, v4 t ht]; exact (q7 t v ht hv).1
      refine ⟨⟨q1.trans ((v1 4 (by decide)).symm.trans e1.symm), q2.trans ((v1 6 (by decide)).symm.trans e2.symm), q3.trans ((v1 7 (by decide)).symm.trans e3.symm), q4.trans ((v1 8 (by decide)).symm.trans e4.symm), fun t v ht hv => ?_, fun v hv => ?_⟩, hb, ?_⟩
      · rw [Nat.zero_add, e5 t v ht hv, v3 t ht]; exact q5 t v ht hv
      · rw [Nat.zero_add, e6 v hv, v2]; exact q6 v hv
      · rw [e7, v1 5 (by decide), v0.2.2.2.2.2.2.2.2]
        unfold rv_ct
        refine lq_ct_cg 96 (fun i hi => ?_)
        have := (q7 (i / 12) (i % 12) (by omega) (by omega)).1
        rw [show 88 + 12 * (i / 12) + i % 12 = 0 + (88 + i) by omega] at this
        exact this.symm
  · rw [ec] at h0; rw [ek]
    exact (h2 k hk h0).cg (E _ (lq_ip_in k)) (fun _ _ => rfl)
end PQ
end
section
/-! ===== what a PLAIN's numbers are within ===== -/
/-- what a PLAIN's numbers are within -/
def rv_r4 (H : Nat → Int) (o : Nat) : Prop := (0 ≤ H o ∧ H o ≤ 8) ∧ (0 ≤ H (o + 1) ∧ H (o + 1) ≤ 99) ∧ (0 ≤ H (o + 2) ∧ H (o + 2) ≤ 999) ∧ (1 ≤ H (o + 3) ∧ H (o + 3) ≤ 12) ∧ (∀ t v, t < 8 → v < 9 → 0 ≤ H (o + (4 + 9 * t + v)) ∧ H (o + (4 + 9 * t + v)) ≤ 999 ∧ ((t : Int) < H o ∨ H (o + (4 + 9 * t + v)) = 0)) ∧ (∀ v, v < 12 → 0 ≤ H (o + (76 + v)) ∧ H (o + (76 + v)) ≤ 999)
theorem rv_r4.cg {H H' : Nat → Int} {o o' : Nat} (h : rv_r4 H o) (e : ∀ k, k < 88 → H' (o' + k) = H (o + k)) : rv_r4 H' o' := by
  obtain ⟨h1, h2, h3, h4, h5, h6⟩ := h
  have e0 : H' o' = H o := e 0 (by decide)
  refine ⟨by rw [e0]; exact h1, by rw [e 1 (by decide)]; exact h2, by rw [e 2 (by decide)]; exact h3, by rw [e 3 (by decide)]; exact h4, fun t v ht hv => ?_, fun v hv => ?_⟩
  · rw [e0, e _ (by omega)]; exact h5 t v ht hv
  · rw [e _ (by omega)]; exact h6 v hv
theorem rv_r4.of {H PL WA : Nat → Int} {TO BI : Nat → Nat → Int} (h : rv_H H PL WA TO BI) (r : rv_ps PL WA TO BI) : rv_r4 H 0 := by
  obtain ⟨q1, q2, q3, q4, q5, q6, -⟩ := h
  obtain ⟨a1, a2, a3, a4, a5, a6, a7, a8, a9⟩ := r
  refine ⟨by rw [q1]; exact a1, by rw [Nat.zero_add, q2]; exact a3, by rw [Nat.zero_add, q3]; exact a4, by rw [Nat.zero_add, q4]; exact a5, fun t v ht hv => ?_, fun v hv => ?_⟩
  · rw [Nat.zero_add, q5 t v ht hv, q1]; exact a6 t v ht hv
  · rw [Nat.zero_add, q6 v hv]; exact a7 v hv
end
